/-! B: the class reads -/
def rbRd (n : Nat) (B : Nat → Nat) (R0 SR : zRS) (pos : Nat) (cs : List rbTk) : Prop := SR.1 5 = nI n ∧ SR.1 6 = nI pos ∧ SR.1 7 = nI cs.length ∧ rbAt (SR.2 1) rbEC 0 cs ∧ SR.2 0 = R0.2 0 ∧ SR.2 2 = R0.2 2 ∧ SR.2 3 = R0.2 3 ∧ SR.2 4 = R0.2 4 ∧ SR.1 8 = R0.1 8
def rbTb (n : Nat) (B : Nat → Nat) (R0 : zRS) : Prop := n ≤ 100 ∧ ∀ i : Nat, i < n → R0.2 0 i = nI (B i) ∧ B i < 128
def rbPC (n : Nat) (B : Nat → Nat) (R0 : zRS) (x : Option (Int32 × zRS)) (r : rbPr) (cs : List rbTk) : Prop := ∃ SR', x = some (if r.1 then 1 else 0, SR') ∧ SR'.1 6 = nI r.2.1 ∧ (r.1 = true → rbRd n B R0 SR' r.2.1 (cs ++ r.2.2))
theorem rSI_s (S : zRS) (k : Nat) (v : Int32) : (rSI S k v).1 k = v := va_up_self _ _ _
theorem rSI_o (S : zRS) {k j : Nat} (v : Int32) (h : j ≠ k) : (rSI S k v).1 j = S.1 j := va_up_ne _ _ h
theorem rSA_s (S : zRS) (k : Nat) (f : Nat → Int32) : (rSA S k f).2 k = f := va_up_self _ _ _
theorem rSA_o (S : zRS) {k j : Nat} (f : Nat → Int32) (h : j ≠ k) : (rSA S k f).2 j = S.2 j := va_up_ne _ _ h
theorem rbAt_app {f : Nat → Int32} {enc : rbTk → Int32} : ∀ {a b : List rbTk} {s : Nat}, rbAt f enc s (a ++ b) ↔ rbAt f enc s a ∧ rbAt f enc (s + a.length) b
  | [], b, s => by
    show rbAt f enc s b ↔ True ∧ rbAt f enc (s + 0) b
    rw [Nat.add_zero, true_and]
  | t :: a, b, s => by
    show f s = enc t ∧ rbAt f enc (s + 1) (a ++ b) ↔ (f s = enc t ∧ rbAt f enc (s + 1) a) ∧ rbAt f enc (s + (a.length + 1)) b
    rw [rbAt_app, show s + (a.length + 1) = s + 1 + a.length by omega, and_assoc]
theorem rbAt_u {f g : Nat → Int32} {enc : rbTk → Int32} : ∀ {a : List rbTk} {s : Nat}, (∀ i : Nat, s ≤ i → i < s + a.length → g i = f i) → rbAt f enc s a → rbAt g enc s a
  | [], _, _, _ => trivial
  | t :: a, s, h, k => ⟨(h s (Nat.le_refl _) (by show s < s + (a.length + 1); omega)).trans k.1, rbAt_u (fun i h1 h2 => h i (by omega) (by show i < s + (a.length + 1); omega)) k.2⟩
def rbIx (i0 c : Nat) : Option Nat := if i0 = 1 then (if 48 ≤ c ∧ c ≤ 57 then some (c - 48) else none) else if i0 = 2 then pLet c else (if 60 ≤ c ∧ c ≤ 62 then some (c - 60) else none)
def rbIv (i0 c : Nat) : Int32 := match rbIx i0 c with
  | some l => nI l
  | none => -1
def rbScan : List Int32 → Int32 → Nat → Int32
  | [], _, _ => -1
  | y :: t, v, x => if y = v then nI x else rbScan t v (x + 1)
theorem rb_scanD : ∀ i0 : Nat, i0 < 4 → 1 ≤ i0 → ∀ c : Nat, c < 128 → rbScan (sByt.getD i0 []) ((nI c).toInt8.toInt32) 0 = rbIv i0 c := by decide +kernel
theorem rb_iz (i0 c : Nat) : (∃ l : Nat, rbIx i0 c = some l ∧ rbIv i0 c = nI l ∧ l < 10) ∨ (rbIx i0 c = none ∧ rbIv i0 c = -1) := by
  unfold rbIv
  cases e : rbIx i0 c with
  | none => exact Or.inr ⟨rfl, rfl⟩
  | some l =>
    refine Or.inl ⟨l, rfl, rfl, ?_⟩
    unfold rbIx at e
    split at e
    · split at e
      · cases e; omega
      · cases e
    · split at e
      · have := (pLet_lt e).1; omega
      · split at e
        · cases e; omega
        · cases e
section RBRD
variable {N n pos : Nat} {B : Nat → Nat} {R0 SR : zRS} {cs : List rbTk}
theorem rb_scan (N : Nat) {i0 : Nat} {v : Int32} (hL : sLen.getD i0 0 = (sByt.getD i0 []).length) (h20 : (sByt.getD i0 []).length < 20) : ∀ (t : List Int32) (x m : Nat), (sByt.getD i0 []).drop x = t → x ≤ (sByt.getD i0 []).length → t.length < m → f_J1_indexOfChar_4cfef_l7 N i0 m (nI (sLen.getD i0 0)) v (nI x) = some (rbScan t v x)
  | t, x, 0, _, _, h => by omega
  | [], x, m + 1, ht, hx, _ => by
    have hl : (sByt.getD i0 []).length ≤ x := List.drop_eq_nil_iff.mp ht
    rw [s_J1_indexOfChar_4cfef_l7]
    show kB _ _ _ = _
    rw [kB_p (nI_le (by omega) (by omega))]
    rfl
  | y :: t, x, m + 1, ht, hx, hm => by
    obtain ⟨d1, d2, d3, -⟩ := sc_dropC ht
    rw [s_J1_indexOfChar_4cfef_l7]
    show kB _ _ _ = _
    rw [kB_n (nI_ge (by omega) (by omega)), kO_p (nI_in (by omega) (by omega)), nI_clamp (by omega), d2]
    show _ = some (if y = v then nI x else rbScan t v (x + 1))
    by_cases c : y = v
    · rw [kB_p c, if_pos c]
    · rw [kB_n c, if_neg c, kL_p, nI_1]
      exact rb_scan N hL h20 t (x + 1) m d3 (by omega) (by simpa using hm)
theorem rb_idx (hN : 201 ≤ N) {i0 c : Nat} (h1 : 1 ≤ i0) (h4 : i0 < 4) (hc : c < 128) : f_J0_indexOf_0f7a4 N i0 (nI c) = some (rbIv i0 c) := by
  have hD : sLen.getD i0 0 = (sByt.getD i0 []).length ∧ (sByt.getD i0 []).length < 20 ∧ 0 < (sByt.getD i0 []).length := by
    have : i0 = 1 ∨ i0 = 2 ∨ i0 = 3 := by omega
    rcases this with rfl | rfl | rfl <;> decide
  have hlen : f_J0_length_8abf5 i0 = some (nI (sLen.getD i0 0)) := by
    unfold f_J0_length_8abf5 f_J0_coder_7d493
    rw [kO_p h4, kL_p, kO_p h4, kC_p, kL_p]
    have : i0 = 1 ∨ i0 = 2 ∨ i0 = 3 := by omega
    rcases this with rfl | rfl | rfl <;> rfl
  have henc : f_J1_canEncode_9a6ad (nI c) = some 1 := by
    unfold f_J1_canEncode_9a6ad
    rw [kB_n (nI_pos (by omega)), kB_n (show ¬ (255 : Int32) < nI c from nI_nlt (a := 255) (by omega) (by decide))]
  unfold f_J0_indexOf_0f7a4 f_J0_indexOf_7cf53 f_J0_isLatin1_aae02 f_J1_indexOf_4cfef f_J1_indexOfChar_4cfef
  rw [kO_p h4, kO_p h4, kO_p h4, kC_p, kO_p (by decide), hlen, kC_p, kO_p h4, henc, kC_p, kB_10]
  have e1 : (if (0 : Int32) < 0 then (0 : Int32) else 0) = 0 := rfl
  have e2 : (if (nI (sLen.getD i0 0)) < (nI (sLen.getD i0 0)) then (nI (sLen.getD i0 0)) else (nI (sLen.getD i0 0))) = nI (sLen.getD i0 0) := by split <;> rfl
  have e3 : (0 : Int32) < nI (sLen.getD i0 0) := nI_lt (a := 0) (by omega) (by omega)
  simp only [kL_p]
  rw [show Int32.ofNat (sLen.getD i0 0) = nI (sLen.getD i0 0) from rfl, e2, e1, kB_p e3, kO_p h4]
  have := rb_scan N (v := (nI c).toInt8.toInt32) hD.1 hD.2.1 (sByt.getD i0 []) 0 N rfl (by omega) (by omega)
  rw [rb_scanD i0 h4 h1 c hc] at this
  rw [show f_J1_indexOfChar_4cfef_l7 N i0 N (nI (sLen.getD i0 0)) ((nI c).toInt8.toInt32) 0 = _ from this]
  rfl
theorem rbRd.go (h : rbRd n B R0 SR pos cs) : rbRd n B R0 (rSI SR 6 (nI (pos + 1))) (pos + 1) cs := by
  obtain ⟨a, b, c, d, e, f, g, i, j⟩ := h
  exact ⟨a, rSI_s _ _ _, c, d, e, f, g, i, j⟩
theorem rb_takes (hT : rbTb n B R0) (h : rbRd n B R0 SR pos cs) (hp : pos ≤ n) {c : Nat} (hc : c < 128) : f_X5_takes SR (nI c) = some (if rbBy n B pos = c then (1, rSI SR 6 (nI (pos + 1))) else (0, SR)) := by
  obtain ⟨a, b, -, -, e, -⟩ := h
  have hn := hT.1
  unfold f_X5_takes
  rw [a, b]
  by_cases q : pos = n
  · subst q
    have : ¬ rbBy pos B pos = c := by unfold rbBy; rw [if_neg (by omega)]; omega
    rw [kB_p (nI_le (by omega) (by omega)), if_neg this]
  · have hb : rbBy n B pos = B pos := by unfold rbBy; rw [if_pos (by omega)]
    obtain ⟨t1, t2⟩ := hT.2 pos (by omega)
    rw [kB_n (nI_ge (by omega) (by omega)), kB_n (show ¬ (100 : Int32) ≤ nI pos from nI_ge (b := 100) (by omega) (by decide)), kO_p (nI_in (by omega) (by decide)), nI_clamp (by omega), e, t1, hb]
    by_cases d : B pos = c
    · rw [kB_p (by rw [d]), if_pos d, kL_p, kL_p, nI_1]
    · rw [kB_n (fun q => d ((nI_eq (by omega) (by omega)).mp q)), if_neg d]
theorem rb_oneOf (hN : 201 ≤ N) (hT : rbTb n B R0) (h : rbRd n B R0 SR pos cs) (hp : pos ≤ n) {i0 : Nat} (h1 : 1 ≤ i0) (h4 : i0 < 4) : f_X5_oneOf N SR i0 = some (rbIv i0 (rbBy n B pos), if rbIx i0 (rbBy n B pos) = none then SR else rSI SR 6 (nI (pos + 1))) := by
  obtain ⟨a, b, -, -, e, -⟩ := h
  have hn := hT.1
  unfold f_X5_oneOf
  rw [kO_p h4, a, b]
  by_cases q : pos = n
  · subst q
    have h2 : rbBy pos B pos = 200 := by unfold rbBy; rw [if_neg (by omega)]
    have h3 : rbIx i0 200 = none := by
      have : i0 = 1 ∨ i0 = 2 ∨ i0 = 3 := by omega
      rcases this with rfl | rfl | rfl <;> rfl
    have h5 : rbIv i0 200 = -1 := by unfold rbIv; rw [h3]
    rw [kB_p (nI_le (by omega) (by omega)), h2, h5, if_pos h3]
  · have hb : rbBy n B pos = B pos := by unfold rbBy; rw [if_pos (by omega)]
    obtain ⟨t1, t2⟩ := hT.2 pos (by omega)
    have hcast : ((nI (B pos)).toUInt32 % 65536).toInt32 = nI (B pos) := by
      rw [pk_char, pk_tn (by omega), Nat.mod_eq_of_lt (by omega)]
    rw [kB_n (nI_ge (by omega) (by omega)), kB_p (show nI pos < (100 : Int32) from nI_lt (b := 100) (by omega) (by decide)), kO_p (nI_in (by omega) (by decide)), nI_clamp (by omega), e, t1, hcast, kL_p, rb_idx hN h1 h4 t2, kC_p, hb]
    rcases rb_iz i0 (B pos) with ⟨l, l1, l2, l3⟩ | ⟨l1, l2⟩
    · rw [l2, kB_n (nI_pos (by omega)), l1, if_neg (by simp), kL_p, kL_p, nI_1]
    · rw [l2, kB_p (by decide), if_pos l1]
theorem rb_number (hN : 201 ≤ N) (hT : rbTb n B R0) (h : rbRd n B R0 SR pos cs) (hp : pos ≤ n) : f_X5_number N SR = some (if (pNum (rbBy n B) pos).1 then nI (pNum (rbBy n B) pos).2.2 else -1, if (pNum (rbBy n B) pos).1 then rSI SR 6 (nI (pNum (rbBy n B) pos).2.1) else SR) := by
  unfold f_X5_number
  rw [rb_oneOf hN hT h hp (by decide) (by decide), kD_p]
  unfold pNum
  by_cases c : 48 ≤ rbBy n B pos ∧ rbBy n B pos ≤ 57
  · have x1 : rbIx 1 (rbBy n B pos) = some (rbBy n B pos - 48) := by unfold rbIx; rw [if_pos rfl, if_pos c]
    have x2 : rbIv 1 (rbBy n B pos) = nI (rbBy n B pos - 48) := by unfold rbIv; rw [x1]
    have hp2 := rbBy_lt (show rbBy n B pos < 128 by omega)
    rw [x1, x2, if_neg (by simp), kB_p (nI_pos' (by omega)), rb_oneOf hN hT h.go hp2 (by decide) (by decide), kD_p, if_pos c]
    by_cases d : 48 ≤ rbBy n B (pos + 1) ∧ rbBy n B (pos + 1) ≤ 57
    · have y1 : rbIx 1 (rbBy n B (pos + 1)) = some (rbBy n B (pos + 1) - 48) := by unfold rbIx; rw [if_pos rfl, if_pos d]
      have y2 : rbIv 1 (rbBy n B (pos + 1)) = nI (rbBy n B (pos + 1) - 48) := by unfold rbIv; rw [y1]
      have e10 : (10 : Int32) = nI 10 := rfl
      rw [y1, y2, if_neg (by simp), kB_p (nI_pos' (by omega)), if_pos d, kL_p, kL_p, e10, pk_mul, nI_add]
      have : rSI (rSI SR 6 (nI (pos + 1))) 6 (nI (pos + 1 + 1)) = rSI SR 6 (nI (pos + 2)) := by
        unfold rSI
        rw [bx_uu]
      rw [this]
      rfl
    · have y1 : rbIx 1 (rbBy n B (pos + 1)) = none := by unfold rbIx; rw [if_pos rfl, if_neg d]
      have y2 : rbIv 1 (rbBy n B (pos + 1)) = -1 := by unfold rbIv; rw [y1]
      rw [y1, y2, if_pos rfl, kB_n (by decide), if_neg d]
      rfl
  · have x1 : rbIx 1 (rbBy n B pos) = none := by unfold rbIx; rw [if_pos rfl, if_neg c]
    have x2 : rbIv 1 (rbBy n B pos) = -1 := by unfold rbIv; rw [x1]
    rw [x1, x2, if_pos rfl, kB_n (by decide), if_neg c]
    rfl
theorem rb_puts (h : rbRd n B R0 SR pos cs) (hl : cs.length < 100) (t : rbTk) : ∃ SR', f_X5_puts SR (rbEC t) = some (1, SR') ∧ rbRd n B R0 SR' pos (cs ++ [t]) := by
  obtain ⟨a, b, c, d, e, f, g, i, j⟩ := h
  unfold f_X5_puts
  rw [c, kB_p (show nI cs.length < (100 : Int32) from nI_lt (b := 100) hl (by decide))]
  simp only [kL_p]
  rw [kO_p (nI_in hl (by decide)), nI_clamp (by omega), nI_1]
  refine ⟨_, rfl, a, b, ?_, ?_, e, f, g, i, j⟩
  · rw [List.length_append]
    rfl
  · rw [rbAt_app]
    refine ⟨rbAt_u (fun q h1 h2 => ?_) d, ?_, trivial⟩
    · show upd (SR.2 1) cs.length (rbEC t) q = SR.2 1 q
      rw [pk_un (by omega)]
    · show upd (SR.2 1) cs.length (rbEC t) (0 + cs.length) = rbEC t
      rw [Nat.zero_add, pk_us]
theorem rb_code : ∀ l : Nat, l < 6 → ∀ s : Nat, s < 3 → ∀ m : Nat, m < 100 → (((0 : Int32) ||| (nI l <<< ((2 : Int32) &&& 31))) ||| (nI s <<< ((5 : Int32) &&& 31))) ||| (nI m <<< ((7 : Int32) &&& 31)) = nI (l * 4 + s * 32 + m * 128) := by decide +kernel
theorem rb_ctest (hN : 201 ≤ N) (hT : rbTb n B R0) (h : rbRd n B R0 SR pos cs) (hp : pos ≤ n) (hc : cs.length ≤ pos) : rbPC n B R0 (f_X5_factor_v4_b77 N SR) (pTest (rbBy n B) pos) cs := by
  have hn := hT.1
  unfold f_X5_factor_v4_b77
  rw [rb_oneOf hN hT h hp (by decide) (by decide), kD_p]
  unfold pTest
  have x0 : rbIx 2 (rbBy n B pos) = pLet (rbBy n B pos) := rfl
  have hfail : ∀ (S : zRS) (x2 x3 : Int32), f_X5_factor_v4_b111 N S x2 x3 (-1) = some (0, S) := by
    intro S x2 x3
    unfold f_X5_factor_v4_b111
    rw [kB_p (by decide)]
  cases e : pLet (rbBy n B pos) with
  | none =>
    have x2 : rbIv 2 (rbBy n B pos) = -1 := by unfold rbIv; rw [x0, e]
    rw [x0, e, x2, if_pos rfl, kB_n (by decide)]
    unfold f_X5_factor_v4_b98
    rw [kB_n (by decide), hfail]
    exact ⟨SR, rfl, h.2.1, fun q => (by cases q)⟩
  | some l =>
    obtain ⟨l1, l2⟩ := pLet_lt e
    have hp2 := rbBy_lt l2
    have x2 : rbIv 2 (rbBy n B pos) = nI l := by unfold rbIv; rw [x0, e]
    rw [x0, e, x2, if_neg (by simp), kB_p (nI_pos' (by omega)), rb_oneOf hN hT h.go hp2 (by decide) (by decide), kD_p]
    show rbPC n B R0 _ (if 60 ≤ rbBy n B (pos + 1) ∧ rbBy n B (pos + 1) ≤ 62 then _ else _) cs
    unfold f_X5_factor_v4_b98
    by_cases c : 60 ≤ rbBy n B (pos + 1) ∧ rbBy n B (pos + 1) ≤ 62
    · have y1 : rbIx 3 (rbBy n B (pos + 1)) = some (rbBy n B (pos + 1) - 60) := by unfold rbIx; rw [if_neg (by decide), if_neg (by decide), if_pos c]
      have y2 : rbIv 3 (rbBy n B (pos + 1)) = nI (rbBy n B (pos + 1) - 60) := by unfold rbIv; rw [y1]
      have hp3 := rbBy_lt (show rbBy n B (pos + 1) < 128 by omega)
      rw [y1, y2, if_neg (by simp), kB_p (nI_pos' (by omega)), rb_number hN hT h.go.go hp3, kD_p, if_pos c]
      obtain ⟨n1, n2⟩ := pNum_ok (B := B) (show pos + 2 ≤ n from hp3)
      cases q : (pNum (rbBy n B) (pos + 2)).1 with
      | true =>
        obtain ⟨m1, m2, m3⟩ := n1 q
        rw [if_pos rfl, if_pos rfl, if_pos rfl]
        unfold f_X5_factor_v4_b111
        rw [kB_n (nI_pos (show (pNum (rbBy n B) (pos + 2)).2.2 < 2147483648 by omega))]
        simp only [kL_p]
        rw [rb_code l l1 _ (by omega) _ m3]
        have hr : rbRd n B R0 (rSI (rSI (rSI SR 6 (nI (pos + 1))) 6 (nI (pos + 2))) 6 (nI (pNum (rbBy n B) (pos + 2)).2.1)) (pNum (rbBy n B) (pos + 2)).2.1 cs := by
          obtain ⟨a, b, c, d, e, f, g, i, j⟩ := h
          exact ⟨a, rSI_s _ _ _, c, d, e, f, g, i, j⟩
        obtain ⟨SR', s1, s2⟩ := rb_puts hr (by omega) (0, l, rbBy n B (pos + 1) - 60, (pNum (rbBy n B) (pos + 2)).2.2)
        have s1' : f_X5_puts (rSI (rSI (rSI SR 6 (nI (pos + 1))) 6 (nI (pos + 2))) 6 (nI (pNum (rbBy n B) (pos + 2)).2.1)) (nI (l * 4 + (rbBy n B (pos + 1) - 60) * 32 + (pNum (rbBy n B) (pos + 2)).2.2 * 128)) = some (1, SR') := s1
        rw [s1', kD_p, kB_10]
        exact ⟨SR', rfl, s2.2.1, fun _ => s2⟩
      | false =>
        have m1 := n2 q
        rw [if_neg (by decide), if_neg (by decide), if_neg (by decide), hfail]
        exact ⟨_, rfl, by rw [rSI_s, m1], fun q => (by cases q)⟩
    · have y1 : rbIx 3 (rbBy n B (pos + 1)) = none := by unfold rbIx; rw [if_neg (by decide), if_neg (by decide), if_neg c]
      have y2 : rbIv 3 (rbBy n B (pos + 1)) = -1 := by unfold rbIv; rw [y1]
      rw [y1, y2, if_pos rfl, kB_n (by decide), if_neg c, hfail]
      exact ⟨_, rfl, by rw [rSI_s], fun q => (by cases q)⟩
theorem rb_fa4 (hN : 201 ≤ N) (hT : rbTb n B R0) (h : rbRd n B R0 SR pos cs) (hp : pos ≤ n) (hc : cs.length ≤ pos) : rbPC n B R0 (f_X5_factor_v4 N SR (nI 4)) (pF (rbBy n B) 0 pos) cs := by
  unfold f_X5_factor_v4 f_X5_factor_v4_b38
  rw [kO_p (by decide), kO_p (by decide)]
  exact rb_ctest hN hT h hp hc
theorem rb_evl4 (hN : 201 ≤ N) (hT : rbTb n B R0) (cs : List rbTk) : ∀ (f x m : Nat) (SR : zRS) (pos : Nat) (ts : List rbTk), f + x = 100 → f + 1 < m → rbRd n B R0 SR pos (cs ++ ts) → pos ≤ n → (cs ++ ts).length ≤ pos → rbPC n B R0 (f_X5_every_v4_l8 N m SR (nI 4) 1 (nI x)) (pTl (pF (rbBy n B) 0) (rbBy n B) f pos ts) cs
  | f, x, 0, SR, pos, ts, _, h, _, _, _ => by omega
  | 0, x, m + 1, SR, pos, ts, hx, _, h, hp, hl => by
    have hx : x = 100 := by omega
    subst hx
    rw [s_X5_every_v4_l8]
    show rbPC n B R0 (kB _ _ _) _ _
    rw [kB_p (show (100 : Int32) ≤ nI 100 by decide), kO_p (by decide)]
    exact ⟨SR, rfl, h.2.1, fun _ => h⟩
  | f + 1, x, m + 1, SR, pos, ts, hx, hm, h, hp, hl => by
    have hn := hT.1
    rw [s_X5_every_v4_l8]
    show rbPC n B R0 (kB _ _ _) (if rbBy n B pos = 38 then _ else _) _
    rw [kB_n (show ¬ (100 : Int32) ≤ nI x from nI_ge (b := 100) (by omega) (by decide)), kB_10, show (38 : Int32) = nI 38 from rfl, rb_takes hT h hp (by decide)]
    by_cases c : rbBy n B pos = 38
    · have hp2 := rbBy_lt (show rbBy n B pos < 128 by omega)
      obtain ⟨S1, q1, q2, q3⟩ := rb_fa4 hN hT h.go hp2 (by omega)
      have ok := pF_ok (B := B) 0 (pos + 1) (show pos + 1 ≤ n from hp2)
      rw [if_pos c, if_pos c, kD_p, kB_10, q1, kD_p]
      cases q : (pF (rbBy n B) 0 (pos + 1)).1 with
      | true =>
        obtain ⟨m1, m2, m3, -⟩ := ok.1 q
        rw [if_pos rfl, if_pos rfl, kB_10]
        have hl2 : (cs ++ ts ++ (pF (rbBy n B) 0 (pos + 1)).2.2).length < 100 := by
          rw [List.length_append]
          omega
        obtain ⟨S2, s1, s2⟩ := rb_puts (q3 q) hl2 (2, 0, 0, 0)
        rw [show f_X5_puts S1 2 = _ from s1, kD_p, kB_10, kL_p, nI_1]
        refine rb_evl4 hN hT cs f (x + 1) m S2 _ _ (by omega) (by omega) ?_ m2 ?_
        · rw [← List.append_assoc, ← List.append_assoc]
          exact s2
        · rw [← List.append_assoc, ← List.append_assoc, List.length_append]
          rw [List.length_append] at hl2 ⊢
          show (cs ++ ts).length + (pF (rbBy n B) 0 (pos + 1)).2.2.length + 1 ≤ _
          omega
      | false =>
        rw [if_neg (by decide), if_neg (by decide), kB_00, kL_p, nI_1]
        obtain ⟨m', rfl⟩ : ∃ m', m = m' + 1 := ⟨m - 1, by omega⟩
        rw [s_X5_every_v4_l8]
        show rbPC n B R0 (kB _ _ _) _ _
        have e : kB ((100 : Int32) ≤ nI (x + 1)) (kO ((0 : Int32) = 0 ∨ (0 : Int32) = 1) (some ((0 : Int32), S1))) (kB ((0 : Int32) = 0) (kO ((0 : Int32) = 0 ∨ (0 : Int32) = 1) (some ((0 : Int32), S1))) (none : Option (Int32 × zRS))) = some (0, S1) := by
          rw [kB_00, kO_p (by decide)]
          by_cases w : (100 : Int32) ≤ nI (x + 1)
          · rw [kB_p w]
          · rw [kB_n w]
        have e2 : ∀ y, kB ((100 : Int32) ≤ nI (x + 1)) (kO ((0 : Int32) = 0 ∨ (0 : Int32) = 1) (some ((0 : Int32), S1))) (kB ((0 : Int32) = 0) (kO ((0 : Int32) = 0 ∨ (0 : Int32) = 1) (some ((0 : Int32), S1))) y) = some (0, S1) := by
          intro y
          rw [kB_00]
          rw [kB_00] at e
          exact e
        rw [e2]
        exact ⟨S1, rfl, q2, fun q => (by cases q)⟩
    · rw [if_neg c, if_neg c, kD_p, kB_00, kO_p (by decide)]
      exact ⟨SR, rfl, h.2.1, fun _ => h⟩
theorem rb_ev4 (hN : 201 ≤ N) (hT : rbTb n B R0) (h : rbRd n B R0 SR pos cs) (hp : pos ≤ n) (hc : cs.length ≤ pos) : rbPC n B R0 (f_X5_every_v4 N SR (nI 4)) (pT (pF (rbBy n B) 0) (rbBy n B) pos) cs := by
  have hn := hT.1
  obtain ⟨S1, q1, q2, q3⟩ := rb_fa4 hN hT h hp hc
  have ok := pF_ok (B := B) 0 pos hp
  unfold f_X5_every_v4 pT
  rw [q1, kD_p]
  cases q : (pF (rbBy n B) 0 pos).1 with
  | true =>
    obtain ⟨m1, m2, m3, -⟩ := ok.1 q
    rw [if_pos rfl, if_pos rfl]
    refine rb_evl4 hN hT cs 100 0 N S1 _ _ (by omega) (by omega) (q3 q) m2 ?_
    rw [List.length_append]
    omega
  | false =>
    rw [if_neg (by decide), if_neg (by decide)]
    obtain ⟨M, rfl⟩ : ∃ M, N = M + 1 := ⟨N - 1, by omega⟩
    rw [s_X5_every_v4_l8]
    show rbPC n B R0 (kB _ _ _) _ _
    rw [kB_n (by decide), kB_00, kO_p (by decide)]
    exact ⟨S1, rfl, q2, fun q => (by cases q)⟩
theorem rb_eil4 (hN : 201 ≤ N) (hT : rbTb n B R0) (cs : List rbTk) : ∀ (f x m : Nat) (SR : zRS) (pos : Nat) (ts : List rbTk), f + x = 100 → f + 1 < m → rbRd n B R0 SR pos (cs ++ ts) → pos ≤ n → (cs ++ ts).length ≤ pos → rbPC n B R0 (f_X5_either_v4_l8 N m SR (nI 4) 1 (nI x)) (pEl (pF (rbBy n B) 0) (rbBy n B) f pos ts) cs
  | f, x, 0, SR, pos, ts, _, h, _, _, _ => by omega
  | 0, x, m + 1, SR, pos, ts, hx, _, h, hp, hl => by
    have hx : x = 100 := by omega
    subst hx
    rw [s_X5_either_v4_l8]
    show rbPC n B R0 (kB _ _ _) _ _
    rw [kB_p (show (100 : Int32) ≤ nI 100 by decide), kO_p (by decide)]
    exact ⟨SR, rfl, h.2.1, fun _ => h⟩
  | f + 1, x, m + 1, SR, pos, ts, hx, hm, h, hp, hl => by
    have hn := hT.1
    rw [s_X5_either_v4_l8]
    show rbPC n B R0 (kB _ _ _) (if rbBy n B pos = 124 then _ else _) _
    rw [kB_n (show ¬ (100 : Int32) ≤ nI x from nI_ge (b := 100) (by omega) (by decide)), kB_10, show (124 : Int32) = nI 124 from rfl, rb_takes hT h hp (by decide)]
    by_cases c : rbBy n B pos = 124
    · have hp2 := rbBy_lt (show rbBy n B pos < 128 by omega)
      obtain ⟨S1, q1, q2, q3⟩ := rb_ev4 hN hT h.go hp2 (by omega)
      have ok := pT_ok (B := B) (fun p hp => pF_ok (B := B) 0 p hp) (show pos + 1 ≤ n from hp2)
      rw [if_pos c, if_pos c, kD_p, kB_10, q1, kD_p]
      cases q : (pT (pF (rbBy n B) 0) (rbBy n B) (pos + 1)).1 with
      | true =>
        obtain ⟨m1, m2, m3, -⟩ := ok.1 q
        rw [if_pos rfl, if_pos rfl, kB_10]
        have hl2 : (cs ++ ts ++ (pT (pF (rbBy n B) 0) (rbBy n B) (pos + 1)).2.2).length < 100 := by
          rw [List.length_append]
          omega
        obtain ⟨S2, s1, s2⟩ := rb_puts (q3 q) hl2 (3, 0, 0, 0)
        rw [show f_X5_puts S1 3 = _ from s1, kD_p, kB_10, kL_p, nI_1]
        refine rb_eil4 hN hT cs f (x + 1) m S2 _ _ (by omega) (by omega) ?_ m2 ?_
        · rw [← List.append_assoc, ← List.append_assoc]
          exact s2
        · rw [← List.append_assoc, ← List.append_assoc, List.length_append]
          rw [List.length_append] at hl2 ⊢
          show (cs ++ ts).length + (pT (pF (rbBy n B) 0) (rbBy n B) (pos + 1)).2.2.length + 1 ≤ _
          omega
      | false =>
        rw [if_neg (by decide), if_neg (by decide), kB_00, kL_p, nI_1]
        obtain ⟨m', rfl⟩ : ∃ m', m = m' + 1 := ⟨m - 1, by omega⟩
        rw [s_X5_either_v4_l8]
        show rbPC n B R0 (kB _ _ _) _ _
        have e : kB ((100 : Int32) ≤ nI (x + 1)) (kO ((0 : Int32) = 0 ∨ (0 : Int32) = 1) (some ((0 : Int32), S1))) (kB ((0 : Int32) = 0) (kO ((0 : Int32) = 0 ∨ (0 : Int32) = 1) (some ((0 : Int32), S1))) (none : Option (Int32 × zRS))) = some (0, S1) := by
          rw [kB_00, kO_p (by decide)]
          by_cases w : (100 : Int32) ≤ nI (x + 1)
          · rw [kB_p w]
          · rw [kB_n w]
        have e2 : ∀ y, kB ((100 : Int32) ≤ nI (x + 1)) (kO ((0 : Int32) = 0 ∨ (0 : Int32) = 1) (some ((0 : Int32), S1))) (kB ((0 : Int32) = 0) (kO ((0 : Int32) = 0 ∨ (0 : Int32) = 1) (some ((0 : Int32), S1))) y) = some (0, S1) := by
          intro y
          rw [kB_00]
          rw [kB_00] at e
          exact e
        rw [e2]
        exact ⟨S1, rfl, q2, fun q => (by cases q)⟩
    · rw [if_neg c, if_neg c, kD_p, kB_00, kO_p (by decide)]
      exact ⟨SR, rfl, h.2.1, fun _ => h⟩
theorem rb_ei4 (hN : 201 ≤ N) (hT : rbTb n B R0) (h : rbRd n B R0 SR pos cs) (hp : pos ≤ n) (hc : cs.length ≤ pos) : rbPC n B R0 (f_X5_either_v4 N SR (nI 4)) (pE (pF (rbBy n B) 0) (rbBy n B) pos) cs := by
  have hn := hT.1
  obtain ⟨S1, q1, q2, q3⟩ := rb_ev4 hN hT h hp hc
  have ok := pT_ok (B := B) (fun p hp => pF_ok (B := B) 0 p hp) hp
  unfold f_X5_either_v4 pE
  rw [q1, kD_p]
  cases q : (pT (pF (rbBy n B) 0) (rbBy n B) pos).1 with
  | true =>
    obtain ⟨m1, m2, m3, -⟩ := ok.1 q
    rw [if_pos rfl, if_pos rfl]
    refine rb_eil4 hN hT cs 100 0 N S1 _ _ (by omega) (by omega) (q3 q) m2 ?_
    rw [List.length_append]
    omega
  | false =>
    rw [if_neg (by decide), if_neg (by decide)]
    obtain ⟨M, rfl⟩ : ∃ M, N = M + 1 := ⟨N - 1, by omega⟩
    rw [s_X5_either_v4_l8]
    show rbPC n B R0 (kB _ _ _) _ _
    rw [kB_n (by decide), kB_00, kO_p (by decide)]
    exact ⟨S1, rfl, q2, fun q => (by cases q)⟩
theorem rb_fa3 (hN : 201 ≤ N) (hT : rbTb n B R0) (h : rbRd n B R0 SR pos cs) (hp : pos ≤ n) (hc : cs.length ≤ pos) : rbPC n B R0 (f_X5_factor_v3 N SR (nI 3)) (pF (rbBy n B) 1 pos) cs := by
  have hn := hT.1
  unfold f_X5_factor_v3
  show rbPC n B R0 _ (if rbBy n B pos = 33 then _ else _) cs
  rw [kB_n (by decide), show (33 : Int32) = nI 33 from rfl, rb_takes hT h hp (by decide)]
  by_cases c : rbBy n B pos = 33
  · have hp2 := rbBy_lt (show rbBy n B pos < 128 by omega)
    obtain ⟨S1, q1, q2, q3⟩ := rb_fa4 hN hT h.go hp2 (by omega)
    have ok := pF_ok (B := B) 0 (pos + 1) hp2
    rw [if_pos c, if_pos c, kD_p, kB_10, kL_p, show nI 3 + 1 = nI 4 from rfl, q1, kD_p]
    cases q : (pF (rbBy n B) 0 (pos + 1)).1 with
    | true =>
      obtain ⟨m1, m2, m3, -⟩ := ok.1 q
      obtain ⟨S2, s1, s2⟩ := rb_puts (q3 q) (by rw [List.length_append]; omega) (1, 0, 0, 0)
      rw [if_pos rfl, if_pos rfl, kB_10, show f_X5_puts S1 1 = _ from s1, kD_p, kB_10]
      refine ⟨S2, rfl, s2.2.1, fun _ => ?_⟩
      show rbRd n B R0 S2 _ (cs ++ ((pF (rbBy n B) 0 (pos + 1)).2.2 ++ [(1, 0, 0, 0)]))
      rw [← List.append_assoc]
      exact s2
    | false =>
      rw [if_neg (by decide), if_neg (by decide), kB_00]
      exact ⟨S1, rfl, q2, fun q => (by cases q)⟩
  · rw [if_neg c, if_neg c, kD_p, kB_00]
    unfold f_X5_factor_v3_b38
    rw [kB_n (by decide), show (40 : Int32) = nI 40 from rfl, rb_takes hT h hp (by decide)]
    by_cases d : rbBy n B pos = 40
    · have hp2 := rbBy_lt (show rbBy n B pos < 128 by omega)
      obtain ⟨S1, q1, q2, q3⟩ := rb_ei4 hN hT h.go hp2 (by omega)
      have ok := pE_ok (B := B) (fun p hp => pF_ok (B := B) 0 p hp) (show pos + 1 ≤ n from hp2)
      rw [if_pos d, if_pos d, kD_p, kB_10, kL_p, show nI 3 + 1 = nI 4 from rfl, q1, kD_p]
      cases q : (pE (pF (rbBy n B) 0) (rbBy n B) (pos + 1)).1 with
      | true =>
        obtain ⟨m1, m2, m3, -⟩ := ok.1 q
        rw [if_pos rfl, if_pos rfl, kB_10, show (41 : Int32) = nI 41 from rfl, rb_takes hT (q3 q) m2 (by decide)]
        by_cases e : rbBy n B (pE (pF (rbBy n B) 0) (rbBy n B) (pos + 1)).2.1 = 41
        · rw [if_pos e, if_pos e, kD_p, kB_10]
          exact ⟨_, rfl, rSI_s _ _ _, fun _ => (q3 q).go⟩
        · rw [if_neg e, if_neg e, kD_p, kB_00]
          exact ⟨S1, rfl, q2, fun q => (by cases q)⟩
      | false =>
        rw [if_neg (by decide), if_neg (by decide), kB_00]
        exact ⟨S1, rfl, q2, fun q => (by cases q)⟩
    · rw [if_neg d, if_neg d, kD_p, kB_00]
      exact rb_ctest hN hT h hp hc
theorem rb_evl3 (hN : 201 ≤ N) (hT : rbTb n B R0) (cs : List rbTk) : ∀ (f x m : Nat) (SR : zRS) (pos : Nat) (ts : List rbTk), f + x = 100 → f + 1 < m → rbRd n B R0 SR pos (cs ++ ts) → pos ≤ n → (cs ++ ts).length ≤ pos → rbPC n B R0 (f_X5_every_v3_l8 N m SR (nI 3) 1 (nI x)) (pTl (pF (rbBy n B) 1) (rbBy n B) f pos ts) cs
  | f, x, 0, SR, pos, ts, _, h, _, _, _ => by omega
  | 0, x, m + 1, SR, pos, ts, hx, _, h, hp, hl => by
    have hx : x = 100 := by omega
    subst hx
    rw [s_X5_every_v3_l8]
    show rbPC n B R0 (kB _ _ _) _ _
    rw [kB_p (show (100 : Int32) ≤ nI 100 by decide), kO_p (by decide)]
    exact ⟨SR, rfl, h.2.1, fun _ => h⟩
  | f + 1, x, m + 1, SR, pos, ts, hx, hm, h, hp, hl => by
    have hn := hT.1
    rw [s_X5_every_v3_l8]
    show rbPC n B R0 (kB _ _ _) (if rbBy n B pos = 38 then _ else _) _
    rw [kB_n (show ¬ (100 : Int32) ≤ nI x from nI_ge (b := 100) (by omega) (by decide)), kB_10, show (38 : Int32) = nI 38 from rfl, rb_takes hT h hp (by decide)]
    by_cases c : rbBy n B pos = 38
    · have hp2 := rbBy_lt (show rbBy n B pos < 128 by omega)
      obtain ⟨S1, q1, q2, q3⟩ := rb_fa3 hN hT h.go hp2 (by omega)
      have ok := pF_ok (B := B) 1 (pos + 1) (show pos + 1 ≤ n from hp2)
      rw [if_pos c, if_pos c, kD_p, kB_10, q1, kD_p]
      cases q : (pF (rbBy n B) 1 (pos + 1)).1 with
      | true =>
        obtain ⟨m1, m2, m3, -⟩ := ok.1 q
        rw [if_pos rfl, if_pos rfl, kB_10]
        have hl2 : (cs ++ ts ++ (pF (rbBy n B) 1 (pos + 1)).2.2).length < 100 := by
          rw [List.length_append]
          omega
        obtain ⟨S2, s1, s2⟩ := rb_puts (q3 q) hl2 (2, 0, 0, 0)
        rw [show f_X5_puts S1 2 = _ from s1, kD_p, kB_10, kL_p, nI_1]
        refine rb_evl3 hN hT cs f (x + 1) m S2 _ _ (by omega) (by omega) ?_ m2 ?_
        · rw [← List.append_assoc, ← List.append_assoc]
          exact s2
        · rw [← List.append_assoc, ← List.append_assoc, List.length_append]
          rw [List.length_append] at hl2 ⊢
          show (cs ++ ts).length + (pF (rbBy n B) 1 (pos + 1)).2.2.length + 1 ≤ _
          omega
      | false =>
        rw [if_neg (by decide), if_neg (by decide), kB_00, kL_p, nI_1]
        obtain ⟨m', rfl⟩ : ∃ m', m = m' + 1 := ⟨m - 1, by omega⟩
        rw [s_X5_every_v3_l8]
        show rbPC n B R0 (kB _ _ _) _ _
        have e : kB ((100 : Int32) ≤ nI (x + 1)) (kO ((0 : Int32) = 0 ∨ (0 : Int32) = 1) (some ((0 : Int32), S1))) (kB ((0 : Int32) = 0) (kO ((0 : Int32) = 0 ∨ (0 : Int32) = 1) (some ((0 : Int32), S1))) (none : Option (Int32 × zRS))) = some (0, S1) := by
          rw [kB_00, kO_p (by decide)]
          by_cases w : (100 : Int32) ≤ nI (x + 1)
          · rw [kB_p w]
          · rw [kB_n w]
        have e2 : ∀ y, kB ((100 : Int32) ≤ nI (x + 1)) (kO ((0 : Int32) = 0 ∨ (0 : Int32) = 1) (some ((0 : Int32), S1))) (kB ((0 : Int32) = 0) (kO ((0 : Int32) = 0 ∨ (0 : Int32) = 1) (some ((0 : Int32), S1))) y) = some (0, S1) := by
          intro y
          rw [kB_00]
          rw [kB_00] at e
          exact e
        rw [e2]
        exact ⟨S1, rfl, q2, fun q => (by cases q)⟩
    · rw [if_neg c, if_neg c, kD_p, kB_00, kO_p (by decide)]
      exact ⟨SR, rfl, h.2.1, fun _ => h⟩
theorem rb_ev3 (hN : 201 ≤ N) (hT : rbTb n B R0) (h : rbRd n B R0 SR pos cs) (hp : pos ≤ n) (hc : cs.length ≤ pos) : rbPC n B R0 (f_X5_every_v3 N SR (nI 3)) (pT (pF (rbBy n B) 1) (rbBy n B) pos) cs := by
  have hn := hT.1
  obtain ⟨S1, q1, q2, q3⟩ := rb_fa3 hN hT h hp hc
  have ok := pF_ok (B := B) 1 pos hp
  unfold f_X5_every_v3 pT
  rw [q1, kD_p]
  cases q : (pF (rbBy n B) 1 pos).1 with
  | true =>
    obtain ⟨m1, m2, m3, -⟩ := ok.1 q
    rw [if_pos rfl, if_pos rfl]
    refine rb_evl3 hN hT cs 100 0 N S1 _ _ (by omega) (by omega) (q3 q) m2 ?_
    rw [List.length_append]
    omega
  | false =>
    rw [if_neg (by decide), if_neg (by decide)]
    obtain ⟨M, rfl⟩ : ∃ M, N = M + 1 := ⟨N - 1, by omega⟩
    rw [s_X5_every_v3_l8]
    show rbPC n B R0 (kB _ _ _) _ _
    rw [kB_n (by decide), kB_00, kO_p (by decide)]
    exact ⟨S1, rfl, q2, fun q => (by cases q)⟩
theorem rb_eil3 (hN : 201 ≤ N) (hT : rbTb n B R0) (cs : List rbTk) : ∀ (f x m : Nat) (SR : zRS) (pos : Nat) (ts : List rbTk), f + x = 100 → f + 1 < m → rbRd n B R0 SR pos (cs ++ ts) → pos ≤ n → (cs ++ ts).length ≤ pos → rbPC n B R0 (f_X5_either_v3_l8 N m SR (nI 3) 1 (nI x)) (pEl (pF (rbBy n B) 1) (rbBy n B) f pos ts) cs
  | f, x, 0, SR, pos, ts, _, h, _, _, _ => by omega
  | 0, x, m + 1, SR, pos, ts, hx, _, h, hp, hl => by
    have hx : x = 100 := by omega
    subst hx
    rw [s_X5_either_v3_l8]
    show rbPC n B R0 (kB _ _ _) _ _
    rw [kB_p (show (100 : Int32) ≤ nI 100 by decide), kO_p (by decide)]
    exact ⟨SR, rfl, h.2.1, fun _ => h⟩
  | f + 1, x, m + 1, SR, pos, ts, hx, hm, h, hp, hl => by
    have hn := hT.1
    rw [s_X5_either_v3_l8]
    show rbPC n B R0 (kB _ _ _) (if rbBy n B pos = 124 then _ else _) _
    rw [kB_n (show ¬ (100 : Int32) ≤ nI x from nI_ge (b := 100) (by omega) (by decide)), kB_10, show (124 : Int32) = nI 124 from rfl, rb_takes hT h hp (by decide)]
    by_cases c : rbBy n B pos = 124
    · have hp2 := rbBy_lt (show rbBy n B pos < 128 by omega)
      obtain ⟨S1, q1, q2, q3⟩ := rb_ev3 hN hT h.go hp2 (by omega)
      have ok := pT_ok (B := B) (fun p hp => pF_ok (B := B) 1 p hp) (show pos + 1 ≤ n from hp2)
      rw [if_pos c, if_pos c, kD_p, kB_10, q1, kD_p]
      cases q : (pT (pF (rbBy n B) 1) (rbBy n B) (pos + 1)).1 with
      | true =>
        obtain ⟨m1, m2, m3, -⟩ := ok.1 q
        rw [if_pos rfl, if_pos rfl, kB_10]
        have hl2 : (cs ++ ts ++ (pT (pF (rbBy n B) 1) (rbBy n B) (pos + 1)).2.2).length < 100 := by
          rw [List.length_append]
          omega
        obtain ⟨S2, s1, s2⟩ := rb_puts (q3 q) hl2 (3, 0, 0, 0)
        rw [show f_X5_puts S1 3 = _ from s1, kD_p, kB_10, kL_p, nI_1]
        refine rb_eil3 hN hT cs f (x + 1) m S2 _ _ (by omega) (by omega) ?_ m2 ?_
        · rw [← List.append_assoc, ← List.append_assoc]
          exact s2
        · rw [← List.append_assoc, ← List.append_assoc, List.length_append]
          rw [List.length_append] at hl2 ⊢
          show (cs ++ ts).length + (pT (pF (rbBy n B) 1) (rbBy n B) (pos + 1)).2.2.length + 1 ≤ _
          omega
      | false =>
        rw [if_neg (by decide), if_neg (by decide), kB_00, kL_p, nI_1]
        obtain ⟨m', rfl⟩ : ∃ m', m = m' + 1 := ⟨m - 1, by omega⟩
        rw [s_X5_either_v3_l8]
        show rbPC n B R0 (kB _ _ _) _ _
        have e : kB ((100 : Int32) ≤ nI (x + 1)) (kO ((0 : Int32) = 0 ∨ (0 : Int32) = 1) (some ((0 : Int32), S1))) (kB ((0 : Int32) = 0) (kO ((0 : Int32) = 0 ∨ (0 : Int32) = 1) (some ((0 : Int32), S1))) (none : Option (Int32 × zRS))) = some (0, S1) := by
          rw [kB_00, kO_p (by decide)]
          by_cases w : (100 : Int32) ≤ nI (x + 1)
          · rw [kB_p w]
          · rw [kB_n w]
        have e2 : ∀ y, kB ((100 : Int32) ≤ nI (x + 1)) (kO ((0 : Int32) = 0 ∨ (0 : Int32) = 1) (some ((0 : Int32), S1))) (kB ((0 : Int32) = 0) (kO ((0 : Int32) = 0 ∨ (0 : Int32) = 1) (some ((0 : Int32), S1))) y) = some (0, S1) := by
          intro y
          rw [kB_00]
          rw [kB_00] at e
          exact e
        rw [e2]
        exact ⟨S1, rfl, q2, fun q => (by cases q)⟩
    · rw [if_neg c, if_neg c, kD_p, kB_00, kO_p (by decide)]
      exact ⟨SR, rfl, h.2.1, fun _ => h⟩
theorem rb_ei3 (hN : 201 ≤ N) (hT : rbTb n B R0) (h : rbRd n B R0 SR pos cs) (hp : pos ≤ n) (hc : cs.length ≤ pos) : rbPC n B R0 (f_X5_either_v3 N SR (nI 3)) (pE (pF (rbBy n B) 1) (rbBy n B) pos) cs := by
  have hn := hT.1
  obtain ⟨S1, q1, q2, q3⟩ := rb_ev3 hN hT h hp hc
  have ok := pT_ok (B := B) (fun p hp => pF_ok (B := B) 1 p hp) hp
  unfold f_X5_either_v3 pE
  rw [q1, kD_p]
  cases q : (pT (pF (rbBy n B) 1) (rbBy n B) pos).1 with
  | true =>
    obtain ⟨m1, m2, m3, -⟩ := ok.1 q
    rw [if_pos rfl, if_pos rfl]
    refine rb_eil3 hN hT cs 100 0 N S1 _ _ (by omega) (by omega) (q3 q) m2 ?_
    rw [List.length_append]
    omega
  | false =>
    rw [if_neg (by decide), if_neg (by decide)]
    obtain ⟨M, rfl⟩ : ∃ M, N = M + 1 := ⟨N - 1, by omega⟩
    rw [s_X5_either_v3_l8]
    show rbPC n B R0 (kB _ _ _) _ _
    rw [kB_n (by decide), kB_00, kO_p (by decide)]
    exact ⟨S1, rfl, q2, fun q => (by cases q)⟩
theorem rb_fa2 (hN : 201 ≤ N) (hT : rbTb n B R0) (h : rbRd n B R0 SR pos cs) (hp : pos ≤ n) (hc : cs.length ≤ pos) : rbPC n B R0 (f_X5_factor_v2 N SR (nI 2)) (pF (rbBy n B) 2 pos) cs := by
  have hn := hT.1
  unfold f_X5_factor_v2
  show rbPC n B R0 _ (if rbBy n B pos = 33 then _ else _) cs
  rw [kB_n (by decide), show (33 : Int32) = nI 33 from rfl, rb_takes hT h hp (by decide)]
  by_cases c : rbBy n B pos = 33
  · have hp2 := rbBy_lt (show rbBy n B pos < 128 by omega)
    obtain ⟨S1, q1, q2, q3⟩ := rb_fa3 hN hT h.go hp2 (by omega)
    have ok := pF_ok (B := B) 1 (pos + 1) hp2
    rw [if_pos c, if_pos c, kD_p, kB_10, kL_p, show nI 2 + 1 = nI 3 from rfl, q1, kD_p]
    cases q : (pF (rbBy n B) 1 (pos + 1)).1 with
    | true =>
      obtain ⟨m1, m2, m3, -⟩ := ok.1 q
      obtain ⟨S2, s1, s2⟩ := rb_puts (q3 q) (by rw [List.length_append]; omega) (1, 0, 0, 0)
      rw [if_pos rfl, if_pos rfl, kB_10, show f_X5_puts S1 1 = _ from s1, kD_p, kB_10]
      refine ⟨S2, rfl, s2.2.1, fun _ => ?_⟩
      show rbRd n B R0 S2 _ (cs ++ ((pF (rbBy n B) 1 (pos + 1)).2.2 ++ [(1, 0, 0, 0)]))
      rw [← List.append_assoc]
      exact s2
    | false =>
      rw [if_neg (by decide), if_neg (by decide), kB_00]
      exact ⟨S1, rfl, q2, fun q => (by cases q)⟩
  · rw [if_neg c, if_neg c, kD_p, kB_00]
    unfold f_X5_factor_v2_b38
    rw [kB_n (by decide), show (40 : Int32) = nI 40 from rfl, rb_takes hT h hp (by decide)]
    by_cases d : rbBy n B pos = 40
    · have hp2 := rbBy_lt (show rbBy n B pos < 128 by omega)
      obtain ⟨S1, q1, q2, q3⟩ := rb_ei3 hN hT h.go hp2 (by omega)
      have ok := pE_ok (B := B) (fun p hp => pF_ok (B := B) 1 p hp) (show pos + 1 ≤ n from hp2)
      rw [if_pos d, if_pos d, kD_p, kB_10, kL_p, show nI 2 + 1 = nI 3 from rfl, q1, kD_p]
      cases q : (pE (pF (rbBy n B) 1) (rbBy n B) (pos + 1)).1 with
      | true =>
        obtain ⟨m1, m2, m3, -⟩ := ok.1 q
        rw [if_pos rfl, if_pos rfl, kB_10, show (41 : Int32) = nI 41 from rfl, rb_takes hT (q3 q) m2 (by decide)]
        by_cases e : rbBy n B (pE (pF (rbBy n B) 1) (rbBy n B) (pos + 1)).2.1 = 41
        · rw [if_pos e, if_pos e, kD_p, kB_10]
          exact ⟨_, rfl, rSI_s _ _ _, fun _ => (q3 q).go⟩
        · rw [if_neg e, if_neg e, kD_p, kB_00]
          exact ⟨S1, rfl, q2, fun q => (by cases q)⟩
      | false =>
        rw [if_neg (by decide), if_neg (by decide), kB_00]
        exact ⟨S1, rfl, q2, fun q => (by cases q)⟩
    · rw [if_neg d, if_neg d, kD_p, kB_00]
      exact rb_ctest hN hT h hp hc
theorem rb_evl2 (hN : 201 ≤ N) (hT : rbTb n B R0) (cs : List rbTk) : ∀ (f x m : Nat) (SR : zRS) (pos : Nat) (ts : List rbTk), f + x = 100 → f + 1 < m → rbRd n B R0 SR pos (cs ++ ts) → pos ≤ n → (cs ++ ts).length ≤ pos → rbPC n B R0 (f_X5_every_v2_l8 N m SR (nI 2) 1 (nI x)) (pTl (pF (rbBy n B) 2) (rbBy n B) f pos ts) cs
  | f, x, 0, SR, pos, ts, _, h, _, _, _ => by omega
  | 0, x, m + 1, SR, pos, ts, hx, _, h, hp, hl => by
    have hx : x = 100 := by omega
    subst hx
    rw [s_X5_every_v2_l8]
    show rbPC n B R0 (kB _ _ _) _ _
    rw [kB_p (show (100 : Int32) ≤ nI 100 by decide), kO_p (by decide)]
    exact ⟨SR, rfl, h.2.1, fun _ => h⟩
  | f + 1, x, m + 1, SR, pos, ts, hx, hm, h, hp, hl => by
    have hn := hT.1
    rw [s_X5_every_v2_l8]
    show rbPC n B R0 (kB _ _ _) (if rbBy n B pos = 38 then _ else _) _
    rw [kB_n (show ¬ (100 : Int32) ≤ nI x from nI_ge (b := 100) (by omega) (by decide)), kB_10, show (38 : Int32) = nI 38 from rfl, rb_takes hT h hp (by decide)]
    by_cases c : rbBy n B pos = 38
    · have hp2 := rbBy_lt (show rbBy n B pos < 128 by omega)
      obtain ⟨S1, q1, q2, q3⟩ := rb_fa2 hN hT h.go hp2 (by omega)
      have ok := pF_ok (B := B) 2 (pos + 1) (show pos + 1 ≤ n from hp2)
      rw [if_pos c, if_pos c, kD_p, kB_10, q1, kD_p]
      cases q : (pF (rbBy n B) 2 (pos + 1)).1 with
      | true =>
        obtain ⟨m1, m2, m3, -⟩ := ok.1 q
        rw [if_pos rfl, if_pos rfl, kB_10]
        have hl2 : (cs ++ ts ++ (pF (rbBy n B) 2 (pos + 1)).2.2).length < 100 := by
          rw [List.length_append]
          omega
        obtain ⟨S2, s1, s2⟩ := rb_puts (q3 q) hl2 (2, 0, 0, 0)
        rw [show f_X5_puts S1 2 = _ from s1, kD_p, kB_10, kL_p, nI_1]
        refine rb_evl2 hN hT cs f (x + 1) m S2 _ _ (by omega) (by omega) ?_ m2 ?_
        · rw [← List.append_assoc, ← List.append_assoc]
          exact s2
        · rw [← List.append_assoc, ← List.append_assoc, List.length_append]
          rw [List.length_append] at hl2 ⊢
          show (cs ++ ts).length + (pF (rbBy n B) 2 (pos + 1)).2.2.length + 1 ≤ _
          omega
      | false =>
        rw [if_neg (by decide), if_neg (by decide), kB_00, kL_p, nI_1]
        obtain ⟨m', rfl⟩ : ∃ m', m = m' + 1 := ⟨m - 1, by omega⟩
        rw [s_X5_every_v2_l8]
        show rbPC n B R0 (kB _ _ _) _ _
        have e : kB ((100 : Int32) ≤ nI (x + 1)) (kO ((0 : Int32) = 0 ∨ (0 : Int32) = 1) (some ((0 : Int32), S1))) (kB ((0 : Int32) = 0) (kO ((0 : Int32) = 0 ∨ (0 : Int32) = 1) (some ((0 : Int32), S1))) (none : Option (Int32 × zRS))) = some (0, S1) := by
          rw [kB_00, kO_p (by decide)]
          by_cases w : (100 : Int32) ≤ nI (x + 1)
          · rw [kB_p w]
          · rw [kB_n w]
        have e2 : ∀ y, kB ((100 : Int32) ≤ nI (x + 1)) (kO ((0 : Int32) = 0 ∨ (0 : Int32) = 1) (some ((0 : Int32), S1))) (kB ((0 : Int32) = 0) (kO ((0 : Int32) = 0 ∨ (0 : Int32) = 1) (some ((0 : Int32), S1))) y) = some (0, S1) := by
          intro y
          rw [kB_00]
          rw [kB_00] at e
          exact e
        rw [e2]
        exact ⟨S1, rfl, q2, fun q => (by cases q)⟩
    · rw [if_neg c, if_neg c, kD_p, kB_00, kO_p (by decide)]
      exact ⟨SR, rfl, h.2.1, fun _ => h⟩
theorem rb_ev2 (hN : 201 ≤ N) (hT : rbTb n B R0) (h : rbRd n B R0 SR pos cs) (hp : pos ≤ n) (hc : cs.length ≤ pos) : rbPC n B R0 (f_X5_every_v2 N SR (nI 2)) (pT (pF (rbBy n B) 2) (rbBy n B) pos) cs := by
  have hn := hT.1
  obtain ⟨S1, q1, q2, q3⟩ := rb_fa2 hN hT h hp hc
  have ok := pF_ok (B := B) 2 pos hp
  unfold f_X5_every_v2 pT
  rw [q1, kD_p]
  cases q : (pF (rbBy n B) 2 pos).1 with
  | true =>
    obtain ⟨m1, m2, m3, -⟩ := ok.1 q
    rw [if_pos rfl, if_pos rfl]
    refine rb_evl2 hN hT cs 100 0 N S1 _ _ (by omega) (by omega) (q3 q) m2 ?_
    rw [List.length_append]
    omega
  | false =>
    rw [if_neg (by decide), if_neg (by decide)]
    obtain ⟨M, rfl⟩ : ∃ M, N = M + 1 := ⟨N - 1, by omega⟩
    rw [s_X5_every_v2_l8]
    show rbPC n B R0 (kB _ _ _) _ _
    rw [kB_n (by decide), kB_00, kO_p (by decide)]
    exact ⟨S1, rfl, q2, fun q => (by cases q)⟩
theorem rb_eil2 (hN : 201 ≤ N) (hT : rbTb n B R0) (cs : List rbTk) : ∀ (f x m : Nat) (SR : zRS) (pos : Nat) (ts : List rbTk), f + x = 100 → f + 1 < m → rbRd n B R0 SR pos (cs ++ ts) → pos ≤ n → (cs ++ ts).length ≤ pos → rbPC n B R0 (f_X5_either_v2_l8 N m SR (nI 2) 1 (nI x)) (pEl (pF (rbBy n B) 2) (rbBy n B) f pos ts) cs
  | f, x, 0, SR, pos, ts, _, h, _, _, _ => by omega
  | 0, x, m + 1, SR, pos, ts, hx, _, h, hp, hl => by
    have hx : x = 100 := by omega
    subst hx
    rw [s_X5_either_v2_l8]
    show rbPC n B R0 (kB _ _ _) _ _
    rw [kB_p (show (100 : Int32) ≤ nI 100 by decide), kO_p (by decide)]
    exact ⟨SR, rfl, h.2.1, fun _ => h⟩
  | f + 1, x, m + 1, SR, pos, ts, hx, hm, h, hp, hl => by
    have hn := hT.1
    rw [s_X5_either_v2_l8]
    show rbPC n B R0 (kB _ _ _) (if rbBy n B pos = 124 then _ else _) _
    rw [kB_n (show ¬ (100 : Int32) ≤ nI x from nI_ge (b := 100) (by omega) (by decide)), kB_10, show (124 : Int32) = nI 124 from rfl, rb_takes hT h hp (by decide)]
    by_cases c : rbBy n B pos = 124
    · have hp2 := rbBy_lt (show rbBy n B pos < 128 by omega)
      obtain ⟨S1, q1, q2, q3⟩ := rb_ev2 hN hT h.go hp2 (by omega)
      have ok := pT_ok (B := B) (fun p hp => pF_ok (B := B) 2 p hp) (show pos + 1 ≤ n from hp2)
      rw [if_pos c, if_pos c, kD_p, kB_10, q1, kD_p]
      cases q : (pT (pF (rbBy n B) 2) (rbBy n B) (pos + 1)).1 with
      | true =>
        obtain ⟨m1, m2, m3, -⟩ := ok.1 q
        rw [if_pos rfl, if_pos rfl, kB_10]
        have hl2 : (cs ++ ts ++ (pT (pF (rbBy n B) 2) (rbBy n B) (pos + 1)).2.2).length < 100 := by
          rw [List.length_append]
          omega
        obtain ⟨S2, s1, s2⟩ := rb_puts (q3 q) hl2 (3, 0, 0, 0)
        rw [show f_X5_puts S1 3 = _ from s1, kD_p, kB_10, kL_p, nI_1]
        refine rb_eil2 hN hT cs f (x + 1) m S2 _ _ (by omega) (by omega) ?_ m2 ?_
        · rw [← List.append_assoc, ← List.append_assoc]
          exact s2
        · rw [← List.append_assoc, ← List.append_assoc, List.length_append]
          rw [List.length_append] at hl2 ⊢
          show (cs ++ ts).length + (pT (pF (rbBy n B) 2) (rbBy n B) (pos + 1)).2.2.length + 1 ≤ _
          omega
      | false =>
        rw [if_neg (by decide), if_neg (by decide), kB_00, kL_p, nI_1]
        obtain ⟨m', rfl⟩ : ∃ m', m = m' + 1 := ⟨m - 1, by omega⟩
        rw [s_X5_either_v2_l8]
        show rbPC n B R0 (kB _ _ _) _ _
        have e : kB ((100 : Int32) ≤ nI (x + 1)) (kO ((0 : Int32) = 0 ∨ (0 : Int32) = 1) (some ((0 : Int32), S1))) (kB ((0 : Int32) = 0) (kO ((0 : Int32) = 0 ∨ (0 : Int32) = 1) (some ((0 : Int32), S1))) (none : Option (Int32 × zRS))) = some (0, S1) := by
          rw [kB_00, kO_p (by decide)]
          by_cases w : (100 : Int32) ≤ nI (x + 1)
          · rw [kB_p w]
          · rw [kB_n w]
        have e2 : ∀ y, kB ((100 : Int32) ≤ nI (x + 1)) (kO ((0 : Int32) = 0 ∨ (0 : Int32) = 1) (some ((0 : Int32), S1))) (kB ((0 : Int32) = 0) (kO ((0 : Int32) = 0 ∨ (0 : Int32) = 1) (some ((0 : Int32), S1))) y) = some (0, S1) := by
          intro y
          rw [kB_00]
          rw [kB_00] at e
          exact e
        rw [e2]
        exact ⟨S1, rfl, q2, fun q => (by cases q)⟩
    · rw [if_neg c, if_neg c, kD_p, kB_00, kO_p (by decide)]
      exact ⟨SR, rfl, h.2.1, fun _ => h⟩
theorem rb_ei2 (hN : 201 ≤ N) (hT : rbTb n B R0) (h : rbRd n B R0 SR pos cs) (hp : pos ≤ n) (hc : cs.length ≤ pos) : rbPC n B R0 (f_X5_either_v2 N SR (nI 2)) (pE (pF (rbBy n B) 2) (rbBy n B) pos) cs := by
  have hn := hT.1
  obtain ⟨S1, q1, q2, q3⟩ := rb_ev2 hN hT h hp hc
  have ok := pT_ok (B := B) (fun p hp => pF_ok (B := B) 2 p hp) hp
  unfold f_X5_either_v2 pE
  rw [q1, kD_p]
  cases q : (pT (pF (rbBy n B) 2) (rbBy n B) pos).1 with
  | true =>
    obtain ⟨m1, m2, m3, -⟩ := ok.1 q
    rw [if_pos rfl, if_pos rfl]
    refine rb_eil2 hN hT cs 100 0 N S1 _ _ (by omega) (by omega) (q3 q) m2 ?_
    rw [List.length_append]
    omega
  | false =>
    rw [if_neg (by decide), if_neg (by decide)]
    obtain ⟨M, rfl⟩ : ∃ M, N = M + 1 := ⟨N - 1, by omega⟩
    rw [s_X5_either_v2_l8]
    show rbPC n B R0 (kB _ _ _) _ _
    rw [kB_n (by decide), kB_00, kO_p (by decide)]
    exact ⟨S1, rfl, q2, fun q => (by cases q)⟩
theorem rb_fa1 (hN : 201 ≤ N) (hT : rbTb n B R0) (h : rbRd n B R0 SR pos cs) (hp : pos ≤ n) (hc : cs.length ≤ pos) : rbPC n B R0 (f_X5_factor_v1 N SR (nI 1)) (pF (rbBy n B) 3 pos) cs := by
  have hn := hT.1
  unfold f_X5_factor_v1
  show rbPC n B R0 _ (if rbBy n B pos = 33 then _ else _) cs
  rw [kB_n (by decide), show (33 : Int32) = nI 33 from rfl, rb_takes hT h hp (by decide)]
  by_cases c : rbBy n B pos = 33
  · have hp2 := rbBy_lt (show rbBy n B pos < 128 by omega)
    obtain ⟨S1, q1, q2, q3⟩ := rb_fa2 hN hT h.go hp2 (by omega)
    have ok := pF_ok (B := B) 2 (pos + 1) hp2
    rw [if_pos c, if_pos c, kD_p, kB_10, kL_p, show nI 1 + 1 = nI 2 from rfl, q1, kD_p]
    cases q : (pF (rbBy n B) 2 (pos + 1)).1 with
    | true =>
      obtain ⟨m1, m2, m3, -⟩ := ok.1 q
      obtain ⟨S2, s1, s2⟩ := rb_puts (q3 q) (by rw [List.length_append]; omega) (1, 0, 0, 0)
      rw [if_pos rfl, if_pos rfl, kB_10, show f_X5_puts S1 1 = _ from s1, kD_p, kB_10]
      refine ⟨S2, rfl, s2.2.1, fun _ => ?_⟩
      show rbRd n B R0 S2 _ (cs ++ ((pF (rbBy n B) 2 (pos + 1)).2.2 ++ [(1, 0, 0, 0)]))
      rw [← List.append_assoc]
      exact s2
    | false =>
      rw [if_neg (by decide), if_neg (by decide), kB_00]
      exact ⟨S1, rfl, q2, fun q => (by cases q)⟩
  · rw [if_neg c, if_neg c, kD_p, kB_00]
    unfold f_X5_factor_v1_b38
    rw [kB_n (by decide), show (40 : Int32) = nI 40 from rfl, rb_takes hT h hp (by decide)]
    by_cases d : rbBy n B pos = 40
    · have hp2 := rbBy_lt (show rbBy n B pos < 128 by omega)
      obtain ⟨S1, q1, q2, q3⟩ := rb_ei2 hN hT h.go hp2 (by omega)
      have ok := pE_ok (B := B) (fun p hp => pF_ok (B := B) 2 p hp) (show pos + 1 ≤ n from hp2)
      rw [if_pos d, if_pos d, kD_p, kB_10, kL_p, show nI 1 + 1 = nI 2 from rfl, q1, kD_p]
      cases q : (pE (pF (rbBy n B) 2) (rbBy n B) (pos + 1)).1 with
      | true =>
        obtain ⟨m1, m2, m3, -⟩ := ok.1 q
        rw [if_pos rfl, if_pos rfl, kB_10, show (41 : Int32) = nI 41 from rfl, rb_takes hT (q3 q) m2 (by decide)]
        by_cases e : rbBy n B (pE (pF (rbBy n B) 2) (rbBy n B) (pos + 1)).2.1 = 41
        · rw [if_pos e, if_pos e, kD_p, kB_10]
          exact ⟨_, rfl, rSI_s _ _ _, fun _ => (q3 q).go⟩
        · rw [if_neg e, if_neg e, kD_p, kB_00]
          exact ⟨S1, rfl, q2, fun q => (by cases q)⟩
      | false =>
        rw [if_neg (by decide), if_neg (by decide), kB_00]
        exact ⟨S1, rfl, q2, fun q => (by cases q)⟩
    · rw [if_neg d, if_neg d, kD_p, kB_00]
      exact rb_ctest hN hT h hp hc
theorem rb_evl1 (hN : 201 ≤ N) (hT : rbTb n B R0) (cs : List rbTk) : ∀ (f x m : Nat) (SR : zRS) (pos : Nat) (ts : List rbTk), f + x = 100 → f + 1 < m → rbRd n B R0 SR pos (cs ++ ts) → pos ≤ n → (cs ++ ts).length ≤ pos → rbPC n B R0 (f_X5_every_v1_l8 N m SR (nI 1) 1 (nI x)) (pTl (pF (rbBy n B) 3) (rbBy n B) f pos ts) cs
  | f, x, 0, SR, pos, ts, _, h, _, _, _ => by omega
  | 0, x, m + 1, SR, pos, ts, hx, _, h, hp, hl => by
    have hx : x = 100 := by omega
    subst hx
    rw [s_X5_every_v1_l8]
    show rbPC n B R0 (kB _ _ _) _ _
    rw [kB_p (show (100 : Int32) ≤ nI 100 by decide), kO_p (by decide)]
    exact ⟨SR, rfl, h.2.1, fun _ => h⟩
  | f + 1, x, m + 1, SR, pos, ts, hx, hm, h, hp, hl => by
    have hn := hT.1
    rw [s_X5_every_v1_l8]
    show rbPC n B R0 (kB _ _ _) (if rbBy n B pos = 38 then _ else _) _
    rw [kB_n (show ¬ (100 : Int32) ≤ nI x from nI_ge (b := 100) (by omega) (by decide)), kB_10, show (38 : Int32) = nI 38 from rfl, rb_takes hT h hp (by decide)]
    by_cases c : rbBy n B pos = 38
    · have hp2 := rbBy_lt (show rbBy n B pos < 128 by omega)
      obtain ⟨S1, q1, q2, q3⟩ := rb_fa1 hN hT h.go hp2 (by omega)
      have ok := pF_ok (B := B) 3 (pos + 1) (show pos + 1 ≤ n from hp2)
      rw [if_pos c, if_pos c, kD_p, kB_10, q1, kD_p]
      cases q : (pF (rbBy n B) 3 (pos + 1)).1 with
      | true =>
        obtain ⟨m1, m2, m3, -⟩ := ok.1 q
        rw [if_pos rfl, if_pos rfl, kB_10]
        have hl2 : (cs ++ ts ++ (pF (rbBy n B) 3 (pos + 1)).2.2).length < 100 := by
          rw [List.length_append]
          omega
        obtain ⟨S2, s1, s2⟩ := rb_puts (q3 q) hl2 (2, 0, 0, 0)
        rw [show f_X5_puts S1 2 = _ from s1, kD_p, kB_10, kL_p, nI_1]
        refine rb_evl1 hN hT cs f (x + 1) m S2 _ _ (by omega) (by omega) ?_ m2 ?_
        · rw [← List.append_assoc, ← List.append_assoc]
          exact s2
        · rw [← List.append_assoc, ← List.append_assoc, List.length_append]
          rw [List.length_append] at hl2 ⊢
          show (cs ++ ts).length + (pF (rbBy n B) 3 (pos + 1)).2.2.length + 1 ≤ _
          omega
      | false =>
        rw [if_neg (by decide), if_neg (by decide), kB_00, kL_p, nI_1]
        obtain ⟨m', rfl⟩ : ∃ m', m = m' + 1 := ⟨m - 1, by omega⟩
        rw [s_X5_every_v1_l8]
        show rbPC n B R0 (kB _ _ _) _ _
        have e : kB ((100 : Int32) ≤ nI (x + 1)) (kO ((0 : Int32) = 0 ∨ (0 : Int32) = 1) (some ((0 : Int32), S1))) (kB ((0 : Int32) = 0) (kO ((0 : Int32) = 0 ∨ (0 : Int32) = 1) (some ((0 : Int32), S1))) (none : Option (Int32 × zRS))) = some (0, S1) := by
          rw [kB_00, kO_p (by decide)]
          by_cases w : (100 : Int32) ≤ nI (x + 1)
          · rw [kB_p w]
          · rw [kB_n w]
        have e2 : ∀ y, kB ((100 : Int32) ≤ nI (x + 1)) (kO ((0 : Int32) = 0 ∨ (0 : Int32) = 1) (some ((0 : Int32), S1))) (kB ((0 : Int32) = 0) (kO ((0 : Int32) = 0 ∨ (0 : Int32) = 1) (some ((0 : Int32), S1))) y) = some (0, S1) := by
          intro y
          rw [kB_00]
          rw [kB_00] at e
          exact e
        rw [e2]
        exact ⟨S1, rfl, q2, fun q => (by cases q)⟩
    · rw [if_neg c, if_neg c, kD_p, kB_00, kO_p (by decide)]
      exact ⟨SR, rfl, h.2.1, fun _ => h⟩
theorem rb_ev1 (hN : 201 ≤ N) (hT : rbTb n B R0) (h : rbRd n B R0 SR pos cs) (hp : pos ≤ n) (hc : cs.length ≤ pos) : rbPC n B R0 (f_X5_every_v1 N SR (nI 1)) (pT (pF (rbBy n B) 3) (rbBy n B) pos) cs := by
  have hn := hT.1
  obtain ⟨S1, q1, q2, q3⟩ := rb_fa1 hN hT h hp hc
  have ok := pF_ok (B := B) 3 pos hp
  unfold f_X5_every_v1 pT
  rw [q1, kD_p]
  cases q : (pF (rbBy n B) 3 pos).1 with
  | true =>
    obtain ⟨m1, m2, m3, -⟩ := ok.1 q
    rw [if_pos rfl, if_pos rfl]
    refine rb_evl1 hN hT cs 100 0 N S1 _ _ (by omega) (by omega) (q3 q) m2 ?_
    rw [List.length_append]
    omega
  | false =>
    rw [if_neg (by decide), if_neg (by decide)]
    obtain ⟨M, rfl⟩ : ∃ M, N = M + 1 := ⟨N - 1, by omega⟩
    rw [s_X5_every_v1_l8]
    show rbPC n B R0 (kB _ _ _) _ _
    rw [kB_n (by decide), kB_00, kO_p (by decide)]
    exact ⟨S1, rfl, q2, fun q => (by cases q)⟩
theorem rb_eil1 (hN : 201 ≤ N) (hT : rbTb n B R0) (cs : List rbTk) : ∀ (f x m : Nat) (SR : zRS) (pos : Nat) (ts : List rbTk), f + x = 100 → f + 1 < m → rbRd n B R0 SR pos (cs ++ ts) → pos ≤ n → (cs ++ ts).length ≤ pos → rbPC n B R0 (f_X5_either_v1_l8 N m SR (nI 1) 1 (nI x)) (pEl (pF (rbBy n B) 3) (rbBy n B) f pos ts) cs
  | f, x, 0, SR, pos, ts, _, h, _, _, _ => by omega
  | 0, x, m + 1, SR, pos, ts, hx, _, h, hp, hl => by
    have hx : x = 100 := by omega
    subst hx
    rw [s_X5_either_v1_l8]
    show rbPC n B R0 (kB _ _ _) _ _
    rw [kB_p (show (100 : Int32) ≤ nI 100 by decide), kO_p (by decide)]
    exact ⟨SR, rfl, h.2.1, fun _ => h⟩
  | f + 1, x, m + 1, SR, pos, ts, hx, hm, h, hp, hl => by
    have hn := hT.1
    rw [s_X5_either_v1_l8]
    show rbPC n B R0 (kB _ _ _) (if rbBy n B pos = 124 then _ else _) _
    rw [kB_n (show ¬ (100 : Int32) ≤ nI x from nI_ge (b := 100) (by omega) (by decide)), kB_10, show (124 : Int32) = nI 124 from rfl, rb_takes hT h hp (by decide)]
    by_cases c : rbBy n B pos = 124
    · have hp2 := rbBy_lt (show rbBy n B pos < 128 by omega)
      obtain ⟨S1, q1, q2, q3⟩ := rb_ev1 hN hT h.go hp2 (by omega)
      have ok := pT_ok (B := B) (fun p hp => pF_ok (B := B) 3 p hp) (show pos + 1 ≤ n from hp2)
      rw [if_pos c, if_pos c, kD_p, kB_10, q1, kD_p]
      cases q : (pT (pF (rbBy n B) 3) (rbBy n B) (pos + 1)).1 with
      | true =>
        obtain ⟨m1, m2, m3, -⟩ := ok.1 q
        rw [if_pos rfl, if_pos rfl, kB_10]
        have hl2 : (cs ++ ts ++ (pT (pF (rbBy n B) 3) (rbBy n B) (pos + 1)).2.2).length < 100 := by
          rw [List.length_append]
          omega
        obtain ⟨S2, s1, s2⟩ := rb_puts (q3 q) hl2 (3, 0, 0, 0)
        rw [show f_X5_puts S1 3 = _ from s1, kD_p, kB_10, kL_p, nI_1]
        refine rb_eil1 hN hT cs f (x + 1) m S2 _ _ (by omega) (by omega) ?_ m2 ?_
        · rw [← List.append_assoc, ← List.append_assoc]
          exact s2
        · rw [← List.append_assoc, ← List.append_assoc, List.length_append]
          rw [List.length_append] at hl2 ⊢
          show (cs ++ ts).length + (pT (pF (rbBy n B) 3) (rbBy n B) (pos + 1)).2.2.length + 1 ≤ _
          omega
      | false =>
        rw [if_neg (by decide), if_neg (by decide), kB_00, kL_p, nI_1]
        obtain ⟨m', rfl⟩ : ∃ m', m = m' + 1 := ⟨m - 1, by omega⟩
        rw [s_X5_either_v1_l8]
        show rbPC n B R0 (kB _ _ _) _ _
        have e : kB ((100 : Int32) ≤ nI (x + 1)) (kO ((0 : Int32) = 0 ∨ (0 : Int32) = 1) (some ((0 : Int32), S1))) (kB ((0 : Int32) = 0) (kO ((0 : Int32) = 0 ∨ (0 : Int32) = 1) (some ((0 : Int32), S1))) (none : Option (Int32 × zRS))) = some (0, S1) := by
          rw [kB_00, kO_p (by decide)]
          by_cases w : (100 : Int32) ≤ nI (x + 1)
          · rw [kB_p w]
          · rw [kB_n w]
        have e2 : ∀ y, kB ((100 : Int32) ≤ nI (x + 1)) (kO ((0 : Int32) = 0 ∨ (0 : Int32) = 1) (some ((0 : Int32), S1))) (kB ((0 : Int32) = 0) (kO ((0 : Int32) = 0 ∨ (0 : Int32) = 1) (some ((0 : Int32), S1))) y) = some (0, S1) := by
          intro y
          rw [kB_00]
          rw [kB_00] at e
          exact e
        rw [e2]
        exact ⟨S1, rfl, q2, fun q => (by cases q)⟩
    · rw [if_neg c, if_neg c, kD_p, kB_00, kO_p (by decide)]
      exact ⟨SR, rfl, h.2.1, fun _ => h⟩
theorem rb_ei1 (hN : 201 ≤ N) (hT : rbTb n B R0) (h : rbRd n B R0 SR pos cs) (hp : pos ≤ n) (hc : cs.length ≤ pos) : rbPC n B R0 (f_X5_either_v1 N SR (nI 1)) (pE (pF (rbBy n B) 3) (rbBy n B) pos) cs := by
  have hn := hT.1
  obtain ⟨S1, q1, q2, q3⟩ := rb_ev1 hN hT h hp hc
  have ok := pT_ok (B := B) (fun p hp => pF_ok (B := B) 3 p hp) hp
  unfold f_X5_either_v1 pE
  rw [q1, kD_p]
  cases q : (pT (pF (rbBy n B) 3) (rbBy n B) pos).1 with
  | true =>
    obtain ⟨m1, m2, m3, -⟩ := ok.1 q
    rw [if_pos rfl, if_pos rfl]
    refine rb_eil1 hN hT cs 100 0 N S1 _ _ (by omega) (by omega) (q3 q) m2 ?_
    rw [List.length_append]
    omega
  | false =>
    rw [if_neg (by decide), if_neg (by decide)]
    obtain ⟨M, rfl⟩ : ∃ M, N = M + 1 := ⟨N - 1, by omega⟩
    rw [s_X5_either_v1_l8]
    show rbPC n B R0 (kB _ _ _) _ _
    rw [kB_n (by decide), kB_00, kO_p (by decide)]
    exact ⟨S1, rfl, q2, fun q => (by cases q)⟩
theorem rb_fa0 (hN : 201 ≤ N) (hT : rbTb n B R0) (h : rbRd n B R0 SR pos cs) (hp : pos ≤ n) (hc : cs.length ≤ pos) : rbPC n B R0 (f_X5_factor_v0 N SR (nI 0)) (pF (rbBy n B) 4 pos) cs := by
  have hn := hT.1
  unfold f_X5_factor_v0
  show rbPC n B R0 _ (if rbBy n B pos = 33 then _ else _) cs
  rw [kB_n (by decide), show (33 : Int32) = nI 33 from rfl, rb_takes hT h hp (by decide)]
  by_cases c : rbBy n B pos = 33
  · have hp2 := rbBy_lt (show rbBy n B pos < 128 by omega)
    obtain ⟨S1, q1, q2, q3⟩ := rb_fa1 hN hT h.go hp2 (by omega)
    have ok := pF_ok (B := B) 3 (pos + 1) hp2
    rw [if_pos c, if_pos c, kD_p, kB_10, kL_p, show nI 0 + 1 = nI 1 from rfl, q1, kD_p]
    cases q : (pF (rbBy n B) 3 (pos + 1)).1 with
    | true =>
      obtain ⟨m1, m2, m3, -⟩ := ok.1 q
      obtain ⟨S2, s1, s2⟩ := rb_puts (q3 q) (by rw [List.length_append]; omega) (1, 0, 0, 0)
      rw [if_pos rfl, if_pos rfl, kB_10, show f_X5_puts S1 1 = _ from s1, kD_p, kB_10]
      refine ⟨S2, rfl, s2.2.1, fun _ => ?_⟩
      show rbRd n B R0 S2 _ (cs ++ ((pF (rbBy n B) 3 (pos + 1)).2.2 ++ [(1, 0, 0, 0)]))
      rw [← List.append_assoc]
      exact s2
    | false =>
      rw [if_neg (by decide), if_neg (by decide), kB_00]
      exact ⟨S1, rfl, q2, fun q => (by cases q)⟩
  · rw [if_neg c, if_neg c, kD_p, kB_00]
    unfold f_X5_factor_v0_b38
    rw [kB_n (by decide), show (40 : Int32) = nI 40 from rfl, rb_takes hT h hp (by decide)]
    by_cases d : rbBy n B pos = 40
    · have hp2 := rbBy_lt (show rbBy n B pos < 128 by omega)
      obtain ⟨S1, q1, q2, q3⟩ := rb_ei1 hN hT h.go hp2 (by omega)
      have ok := pE_ok (B := B) (fun p hp => pF_ok (B := B) 3 p hp) (show pos + 1 ≤ n from hp2)
      rw [if_pos d, if_pos d, kD_p, kB_10, kL_p, show nI 0 + 1 = nI 1 from rfl, q1, kD_p]
      cases q : (pE (pF (rbBy n B) 3) (rbBy n B) (pos + 1)).1 with
      | true =>
        obtain ⟨m1, m2, m3, -⟩ := ok.1 q
        rw [if_pos rfl, if_pos rfl, kB_10, show (41 : Int32) = nI 41 from rfl, rb_takes hT (q3 q) m2 (by decide)]
        by_cases e : rbBy n B (pE (pF (rbBy n B) 3) (rbBy n B) (pos + 1)).2.1 = 41
        · rw [if_pos e, if_pos e, kD_p, kB_10]
          exact ⟨_, rfl, rSI_s _ _ _, fun _ => (q3 q).go⟩
        · rw [if_neg e, if_neg e, kD_p, kB_00]
          exact ⟨S1, rfl, q2, fun q => (by cases q)⟩
      | false =>
        rw [if_neg (by decide), if_neg (by decide), kB_00]
        exact ⟨S1, rfl, q2, fun q => (by cases q)⟩
    · rw [if_neg d, if_neg d, kD_p, kB_00]
      exact rb_ctest hN hT h hp hc
theorem rb_evl0 (hN : 201 ≤ N) (hT : rbTb n B R0) (cs : List rbTk) : ∀ (f x m : Nat) (SR : zRS) (pos : Nat) (ts : List rbTk), f + x = 100 → f + 1 < m → rbRd n B R0 SR pos (cs ++ ts) → pos ≤ n → (cs ++ ts).length ≤ pos → rbPC n B R0 (f_X5_every_v0_l8 N m SR (nI 0) 1 (nI x)) (pTl (pF (rbBy n B) 4) (rbBy n B) f pos ts) cs
  | f, x, 0, SR, pos, ts, _, h, _, _, _ => by omega
  | 0, x, m + 1, SR, pos, ts, hx, _, h, hp, hl => by
    have hx : x = 100 := by omega
    subst hx
    rw [s_X5_every_v0_l8]
    show rbPC n B R0 (kB _ _ _) _ _
    rw [kB_p (show (100 : Int32) ≤ nI 100 by decide), kO_p (by decide)]
    exact ⟨SR, rfl, h.2.1, fun _ => h⟩
  | f + 1, x, m + 1, SR, pos, ts, hx, hm, h, hp, hl => by
    have hn := hT.1
    rw [s_X5_every_v0_l8]
    show rbPC n B R0 (kB _ _ _) (if rbBy n B pos = 38 then _ else _) _
    rw [kB_n (show ¬ (100 : Int32) ≤ nI x from nI_ge (b := 100) (by omega) (by decide)), kB_10, show (38 : Int32) = nI 38 from rfl, rb_takes hT h hp (by decide)]
    by_cases c : rbBy n B pos = 38
    · have hp2 := rbBy_lt (show rbBy n B pos < 128 by omega)
      obtain ⟨S1, q1, q2, q3⟩ := rb_fa0 hN hT h.go hp2 (by omega)
      have ok := pF_ok (B := B) 4 (pos + 1) (show pos + 1 ≤ n from hp2)
      rw [if_pos c, if_pos c, kD_p, kB_10, q1, kD_p]
      cases q : (pF (rbBy n B) 4 (pos + 1)).1 with
      | true =>
        obtain ⟨m1, m2, m3, -⟩ := ok.1 q
        rw [if_pos rfl, if_pos rfl, kB_10]
        have hl2 : (cs ++ ts ++ (pF (rbBy n B) 4 (pos + 1)).2.2).length < 100 := by
          rw [List.length_append]
          omega
        obtain ⟨S2, s1, s2⟩ := rb_puts (q3 q) hl2 (2, 0, 0, 0)
        rw [show f_X5_puts S1 2 = _ from s1, kD_p, kB_10, kL_p, nI_1]
        refine rb_evl0 hN hT cs f (x + 1) m S2 _ _ (by omega) (by omega) ?_ m2 ?_
        · rw [← List.append_assoc, ← List.append_assoc]
          exact s2
        · rw [← List.append_assoc, ← List.append_assoc, List.length_append]
          rw [List.length_append] at hl2 ⊢
          show (cs ++ ts).length + (pF (rbBy n B) 4 (pos + 1)).2.2.length + 1 ≤ _
          omega
      | false =>
        rw [if_neg (by decide), if_neg (by decide), kB_00, kL_p, nI_1]
        obtain ⟨m', rfl⟩ : ∃ m', m = m' + 1 := ⟨m - 1, by omega⟩
        rw [s_X5_every_v0_l8]
        show rbPC n B R0 (kB _ _ _) _ _
        have e : kB ((100 : Int32) ≤ nI (x + 1)) (kO ((0 : Int32) = 0 ∨ (0 : Int32) = 1) (some ((0 : Int32), S1))) (kB ((0 : Int32) = 0) (kO ((0 : Int32) = 0 ∨ (0 : Int32) = 1) (some ((0 : Int32), S1))) (none : Option (Int32 × zRS))) = some (0, S1) := by
          rw [kB_00, kO_p (by decide)]
          by_cases w : (100 : Int32) ≤ nI (x + 1)
          · rw [kB_p w]
          · rw [kB_n w]
        have e2 : ∀ y, kB ((100 : Int32) ≤ nI (x + 1)) (kO ((0 : Int32) = 0 ∨ (0 : Int32) = 1) (some ((0 : Int32), S1))) (kB ((0 : Int32) = 0) (kO ((0 : Int32) = 0 ∨ (0 : Int32) = 1) (some ((0 : Int32), S1))) y) = some (0, S1) := by
          intro y
          rw [kB_00]
          rw [kB_00] at e
          exact e
        rw [e2]
        exact ⟨S1, rfl, q2, fun q => (by cases q)⟩
    · rw [if_neg c, if_neg c, kD_p, kB_00, kO_p (by decide)]
      exact ⟨SR, rfl, h.2.1, fun _ => h⟩
theorem rb_ev0 (hN : 201 ≤ N) (hT : rbTb n B R0) (h : rbRd n B R0 SR pos cs) (hp : pos ≤ n) (hc : cs.length ≤ pos) : rbPC n B R0 (f_X5_every_v0 N SR (nI 0)) (pT (pF (rbBy n B) 4) (rbBy n B) pos) cs := by
  have hn := hT.1
  obtain ⟨S1, q1, q2, q3⟩ := rb_fa0 hN hT h hp hc
  have ok := pF_ok (B := B) 4 pos hp
  unfold f_X5_every_v0 pT
  rw [q1, kD_p]
  cases q : (pF (rbBy n B) 4 pos).1 with
  | true =>
    obtain ⟨m1, m2, m3, -⟩ := ok.1 q
    rw [if_pos rfl, if_pos rfl]
    refine rb_evl0 hN hT cs 100 0 N S1 _ _ (by omega) (by omega) (q3 q) m2 ?_
    rw [List.length_append]
    omega
  | false =>
    rw [if_neg (by decide), if_neg (by decide)]
    obtain ⟨M, rfl⟩ : ∃ M, N = M + 1 := ⟨N - 1, by omega⟩
    rw [s_X5_every_v0_l8]
    show rbPC n B R0 (kB _ _ _) _ _
    rw [kB_n (by decide), kB_00, kO_p (by decide)]
    exact ⟨S1, rfl, q2, fun q => (by cases q)⟩
theorem rb_eil0 (hN : 201 ≤ N) (hT : rbTb n B R0) (cs : List rbTk) : ∀ (f x m : Nat) (SR : zRS) (pos : Nat) (ts : List rbTk), f + x = 100 → f + 1 < m → rbRd n B R0 SR pos (cs ++ ts) → pos ≤ n → (cs ++ ts).length ≤ pos → rbPC n B R0 (f_X5_either_v0_l8 N m SR (nI 0) 1 (nI x)) (pEl (pF (rbBy n B) 4) (rbBy n B) f pos ts) cs
  | f, x, 0, SR, pos, ts, _, h, _, _, _ => by omega
  | 0, x, m + 1, SR, pos, ts, hx, _, h, hp, hl => by
    have hx : x = 100 := by omega
    subst hx
    rw [s_X5_either_v0_l8]
    show rbPC n B R0 (kB _ _ _) _ _
    rw [kB_p (show (100 : Int32) ≤ nI 100 by decide), kO_p (by decide)]
    exact ⟨SR, rfl, h.2.1, fun _ => h⟩
  | f + 1, x, m + 1, SR, pos, ts, hx, hm, h, hp, hl => by
    have hn := hT.1
    rw [s_X5_either_v0_l8]
    show rbPC n B R0 (kB _ _ _) (if rbBy n B pos = 124 then _ else _) _
    rw [kB_n (show ¬ (100 : Int32) ≤ nI x from nI_ge (b := 100) (by omega) (by decide)), kB_10, show (124 : Int32) = nI 124 from rfl, rb_takes hT h hp (by decide)]
    by_cases c : rbBy n B pos = 124
    · have hp2 := rbBy_lt (show rbBy n B pos < 128 by omega)
      obtain ⟨S1, q1, q2, q3⟩ := rb_ev0 hN hT h.go hp2 (by omega)
      have ok := pT_ok (B := B) (fun p hp => pF_ok (B := B) 4 p hp) (show pos + 1 ≤ n from hp2)
      rw [if_pos c, if_pos c, kD_p, kB_10, q1, kD_p]
      cases q : (pT (pF (rbBy n B) 4) (rbBy n B) (pos + 1)).1 with
      | true =>
        obtain ⟨m1, m2, m3, -⟩ := ok.1 q
        rw [if_pos rfl, if_pos rfl, kB_10]
        have hl2 : (cs ++ ts ++ (pT (pF (rbBy n B) 4) (rbBy n B) (pos + 1)).2.2).length < 100 := by
          rw [List.length_append]
          omega
        obtain ⟨S2, s1, s2⟩ := rb_puts (q3 q) hl2 (3, 0, 0, 0)
        rw [show f_X5_puts S1 3 = _ from s1, kD_p, kB_10, kL_p, nI_1]
        refine rb_eil0 hN hT cs f (x + 1) m S2 _ _ (by omega) (by omega) ?_ m2 ?_
        · rw [← List.append_assoc, ← List.append_assoc]
          exact s2
        · rw [← List.append_assoc, ← List.append_assoc, List.length_append]
          rw [List.length_append] at hl2 ⊢
          show (cs ++ ts).length + (pT (pF (rbBy n B) 4) (rbBy n B) (pos + 1)).2.2.length + 1 ≤ _
          omega
      | false =>
        rw [if_neg (by decide), if_neg (by decide), kB_00, kL_p, nI_1]
        obtain ⟨m', rfl⟩ : ∃ m', m = m' + 1 := ⟨m - 1, by omega⟩
        rw [s_X5_either_v0_l8]
        show rbPC n B R0 (kB _ _ _) _ _
        have e : kB ((100 : Int32) ≤ nI (x + 1)) (kO ((0 : Int32) = 0 ∨ (0 : Int32) = 1) (some ((0 : Int32), S1))) (kB ((0 : Int32) = 0) (kO ((0 : Int32) = 0 ∨ (0 : Int32) = 1) (some ((0 : Int32), S1))) (none : Option (Int32 × zRS))) = some (0, S1) := by
          rw [kB_00, kO_p (by decide)]
          by_cases w : (100 : Int32) ≤ nI (x + 1)
          · rw [kB_p w]
          · rw [kB_n w]
        have e2 : ∀ y, kB ((100 : Int32) ≤ nI (x + 1)) (kO ((0 : Int32) = 0 ∨ (0 : Int32) = 1) (some ((0 : Int32), S1))) (kB ((0 : Int32) = 0) (kO ((0 : Int32) = 0 ∨ (0 : Int32) = 1) (some ((0 : Int32), S1))) y) = some (0, S1) := by
          intro y
          rw [kB_00]
          rw [kB_00] at e
          exact e
        rw [e2]
        exact ⟨S1, rfl, q2, fun q => (by cases q)⟩
    · rw [if_neg c, if_neg c, kD_p, kB_00, kO_p (by decide)]
      exact ⟨SR, rfl, h.2.1, fun _ => h⟩
theorem rb_ei0 (hN : 201 ≤ N) (hT : rbTb n B R0) (h : rbRd n B R0 SR pos cs) (hp : pos ≤ n) (hc : cs.length ≤ pos) : rbPC n B R0 (f_X5_either_v0 N SR (nI 0)) (pE (pF (rbBy n B) 4) (rbBy n B) pos) cs := by
  have hn := hT.1
  obtain ⟨S1, q1, q2, q3⟩ := rb_ev0 hN hT h hp hc
  have ok := pT_ok (B := B) (fun p hp => pF_ok (B := B) 4 p hp) hp
  unfold f_X5_either_v0 pE
  rw [q1, kD_p]
  cases q : (pT (pF (rbBy n B) 4) (rbBy n B) pos).1 with
  | true =>
    obtain ⟨m1, m2, m3, -⟩ := ok.1 q
    rw [if_pos rfl, if_pos rfl]
    refine rb_eil0 hN hT cs 100 0 N S1 _ _ (by omega) (by omega) (q3 q) m2 ?_
    rw [List.length_append]
    omega
  | false =>
    rw [if_neg (by decide), if_neg (by decide)]
    obtain ⟨M, rfl⟩ : ∃ M, N = M + 1 := ⟨N - 1, by omega⟩
    rw [s_X5_either_v0_l8]
    show rbPC n B R0 (kB _ _ _) _ _
    rw [kB_n (by decide), kB_00, kO_p (by decide)]
    exact ⟨S1, rfl, q2, fun q => (by cases q)⟩
end RBRD
