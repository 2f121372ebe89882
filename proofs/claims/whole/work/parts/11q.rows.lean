/-! B: the rows in which THINGS are asked for -/
def rbNxI (g : Nat → Nat) : Nat → Option Nat
  | 0 => none
  | i + 1 => if g (i + 1) < g i then rbNxI g i else some i
def rbNxJ (g : Nat → Nat) (i : Nat) : Nat → Nat
  | 0 => 0
  | j + 1 => if j + 1 ≤ i then j + 1 else if g (j + 1) < g i then rbNxJ g i j else j + 1
def rbSw (g : Nat → Nat) (a b : Nat) : Nat → Nat := fun k => if k = b then g a else if k = a then g b else g k
def rbRv : Nat → (Nat → Nat) → Nat → Nat → (Nat → Nat)
  | 0, g, _, _ => g
  | f + 1, g, lo, hi => if hi ≤ lo then g else rbRv f (rbSw g lo hi) (lo + 1) (hi - 1)
def rbNext (n : Nat) (g : Nat → Nat) : Option (Nat → Nat) := match rbNxI g (n - 1) with
  | none => none
  | some i => some (rbRv 5 (rbSw g i (rbNxJ g i (n - 1))) (i + 1) (n - 1))
def rbPk (left : Nat) : Nat → Nat → Nat → Option Nat
  | _, _, 0 => none
  | nth, t, j + 1 => if left / 2 ^ t % 2 = 1 then (if nth = 0 then some t else rbPk left (nth - 1) (t + 1) j) else rbPk left nth (t + 1) j
def rbClr (left u : Nat) : Nat := if left / 2 ^ u % 2 = 1 then left - 2 ^ u else left
def rbLay (n : Nat) : Nat → Nat → Nat → Nat → Nat → Option (List Nat)
  | _, _, _, _, 0 => some []
  | all, left, rest, k, m + 1 => if all / (n - k) = 0 then none else match rbPk left (rest / (all / (n - k))) 0 5 with
    | none => none
    | some u => match rbLay n (all / (n - k)) (rbClr left u) (rest % (all / (n - k))) (k + 1) m with
      | none => none
      | some l => some (u :: l)
def rbFa : Nat → Nat
  | 0 => 1
  | n + 1 => (n + 1) * rbFa n
def rbRo (n k : Nat) : List Nat := (rbLay n (rbFa n) (2 ^ n - 1) k 0 n).getD []
def rbG (n k : Nat) : Nat → Nat := fun i => (rbRo n k).getD i 0
def rbChk (n k : Nat) : Bool := (rbLay n (rbFa n) (2 ^ n - 1) k 0 n == some (rbRo n k)) && (List.range n).all (fun i => decide (rbG n k i < n)) && (match rbNext n (rbG n k) with
  | none => decide (k + 1 = rbFa n)
  | some g => decide (k + 1 < rbFa n) && (List.range n).all (fun i => g i == rbG n (k + 1) i))
theorem rb_chk : ∀ n : Nat, n < 6 → ∀ k : Nat, k < rbFa n → rbChk n k = true := by decide +kernel
theorem rb_chk0 : ∀ n : Nat, n < 6 → ∀ i : Nat, i < n → rbG n 0 i = i := by decide +kernel
theorem rb_chkP {n k : Nat} (hn : n < 6) (hk : k < rbFa n) : rbLay n (rbFa n) (2 ^ n - 1) k 0 n = some (rbRo n k) ∧ (∀ i : Nat, i < n → rbG n k i < n) ∧ ((rbNext n (rbG n k) = none ∧ k + 1 = rbFa n) ∨ ∃ g, rbNext n (rbG n k) = some g ∧ k + 1 < rbFa n ∧ ∀ i : Nat, i < n → g i = rbG n (k + 1) i) := by
  have h := rb_chk n hn k hk
  unfold rbChk at h
  rw [Bool.and_eq_true, Bool.and_eq_true] at h
  obtain ⟨⟨h1, h2⟩, h3⟩ := h
  refine ⟨by simpa using h1, ?_, ?_⟩
  · intro i hi
    have := List.all_eq_true.mp h2 i (List.mem_range.mpr hi)
    simpa using this
  · cases hx : rbNext n (rbG n k) with
    | none =>
      rw [hx] at h3
      exact Or.inl ⟨rfl, by simpa using h3⟩
    | some g =>
      rw [hx] at h3
      rw [Bool.and_eq_true] at h3
      refine Or.inr ⟨g, rfl, by simpa using h3.1, fun i hi => ?_⟩
      have := List.all_eq_true.mp h3.2 i (List.mem_range.mpr hi)
      simpa using this
/-- the class's next row -/
def rbRw (SA : Nat → Int32) (g : Nat → Nat) (n : Nat) : Prop := ∀ i : Nat, i < n → SA i = nI (g i) ∧ g i < 7
theorem rb_swap {SA : Nat → Int32} {g : Nat → Nat} {n a b : Nat} (hn : n ≤ 5) (h : rbRw SA g n) (ha : a < n) (hb : b < n) : ∃ SB, f_X11_swap SA (nI a) (nI b) = some SB ∧ rbRw SB (rbSw g a b) n := by
  unfold f_X11_swap
  have d5 : ∀ x : Nat, x < 5 → ¬ (Int32.ofNat 5) ≤ nI x := fun x hx => nI_ge (b := 5) hx (by decide)
  rw [kB_n (nI_pos (by omega)), kB_n (nI_pos (by omega)), kB_n (d5 a (by omega)), kB_p (show nI b < Int32.ofNat 5 from nI_lt (b := 5) (by omega) (by decide))]
  simp only [kL_p, nI_clamp (show a < 2 ^ 31 by omega), nI_clamp (show b < 2 ^ 31 by omega), kO_p (rb_in2 (show a < 5 by omega) (by decide)), kO_p (rb_in2 (show b < 5 by omega) (by decide))]
  refine ⟨_, rfl, ?_⟩
  intro i hi
  unfold rbSw
  by_cases c : i = b
  · subst c
    rw [pk_us, if_pos rfl]
    exact h a ha
  · rw [pk_un c, if_neg c]
    by_cases d : i = a
    · subst d
      rw [pk_us, if_pos rfl]
      exact h b hb
    · rw [pk_un d, if_neg d]
      exact h i hi
theorem rb_rev (N : Nat) {n : Nat} (hn : n ≤ 5) : ∀ (f lo hi m : Nat) (SA : Nat → Int32) (g : Nat → Nat), rbRw SA g n → lo < 100 → hi < n → hi < lo + f → f < m → ∃ SB, f_X11_nextOrder_l79 N m SA (nI lo) (nI hi) = some (1, SB) ∧ rbRw SB (rbRv f g lo hi) n
  | f, lo, hi, 0, SA, g, _, _, _, _, h => by omega
  | 0, lo, hi, m + 1, SA, g, h, h0, h1, h2, _ => by
    rw [s_X11_nextOrder_l79]
    show ∃ SB, kB _ _ _ = _ ∧ _
    by_cases hlo : lo < 2 ^ 31
    · rw [kB_p (nI_le (by omega) hlo)]
      exact ⟨SA, rfl, h⟩
    · omega
  | f + 1, lo, hi, m + 1, SA, g, h, h0, h1, h2, h3 => by
    rw [s_X11_nextOrder_l79]
    show ∃ SB, kB _ _ _ = _ ∧ rbRw SB (if hi ≤ lo then g else rbRv f (rbSw g lo hi) (lo + 1) (hi - 1)) n
    by_cases c : hi ≤ lo
    · rw [if_pos c]
      by_cases hlo : lo < 2 ^ 31
      · rw [kB_p (nI_le c hlo)]
        exact ⟨SA, rfl, h⟩
      · omega
    · rw [if_neg c]
      obtain ⟨SB, b1, b2⟩ := rb_swap hn h (show lo < n by omega) h1
      obtain ⟨hi', rfl⟩ : ∃ hi', hi = hi' + 1 := ⟨hi - 1, by omega⟩
      rw [kB_n (nI_ge (by omega) (by omega)), b1, kC_p, kL_p, kL_p, nI_1, pk_m1]
      exact rb_rev N hn f (lo + 1) hi' m SB _ b2 (by omega) (by omega) (by omega) (by omega)
theorem rb_lt5 {SA : Nat → Int32} {g : Nat → Nat} {n a b : Nat} (h : rbRw SA g n) (ha : a < n) (hb : b < n) : (SA a ≤ SA b ↔ ¬ g b < g a) := by
  rw [(h a ha).1, (h b hb).1, nI_leI (by have := (h a ha).2; omega) (by have := (h b hb).2; omega)]
  omega
theorem rb_nxJ (N : Nat) (hN : 101 ≤ N) {n i : Nat} (hn : n ≤ 5) {SA : Nat → Int32} {g : Nat → Nat} (h : rbRw SA g n) (hi : i < n) : ∀ (j m : Nat), i < n → j < n → j < m → i ≤ j → ∃ SB, f_X11_nextOrder_l43 N m SA (nI n) (nI i) (nI j) = some (1, SB) ∧ rbRw SB (rbRv 5 (rbSw g i (rbNxJ g i j)) (i + 1) (n - 1)) n := by
  have b63 : ∀ j : Nat, j < n → ∃ SB, f_X11_nextOrder_b63 N SA (nI n) (nI i) (nI j) = some (1, SB) ∧ rbRw SB (rbRv 5 (rbSw g i j) (i + 1) (n - 1)) n := by
    intro j hj
    unfold f_X11_nextOrder_b63
    obtain ⟨SB, b1, b2⟩ := rb_swap hn h hi hj
    obtain ⟨n', rfl⟩ : ∃ n', n = n' + 1 := ⟨n - 1, by omega⟩
    rw [b1, kC_p, kL_p, kL_p, nI_1, nI_pred]
    exact rb_rev N hn 5 (i + 1) n' N SB _ b2 (by omega) (by omega) (by omega) (by omega)
  intro j
  induction j with
  | zero =>
    intro m h1 h2 h3 h4
    cases m with
    | zero => omega
    | succ m =>
      have : i = 0 := by omega
      subst this
      rw [s_X11_nextOrder_l43]
      show ∃ SB, kB _ _ _ = _ ∧ _
      rw [kB_p (nI_le (Nat.le_refl _) (by omega))]
      exact b63 0 h2
  | succ j ih =>
    intro m h1 h2 h3 h4
    cases m with
    | zero => omega
    | succ m =>
      rw [s_X11_nextOrder_l43]
      show ∃ SB, kB _ _ _ = _ ∧ rbRw SB (rbRv 5 (rbSw g i (if j + 1 ≤ i then j + 1 else if g (j + 1) < g i then rbNxJ g i j else j + 1)) (i + 1) (n - 1)) n
      by_cases c : j + 1 ≤ i
      · rw [kB_p (nI_le c (by omega)), if_pos c]
        exact b63 _ h2
      · rw [kB_n (nI_ge (by omega) (by omega)), kO_p (nI_in (by omega) (by decide)), kO_p (nI_in (by omega) (by decide)), nI_clamp (by omega), nI_clamp (by omega), if_neg c]
        by_cases d : g (j + 1) < g i
        · rw [kB_n (fun q => (rb_lt5 h hi h2).mp q d), if_pos d, kL_p, pk_m1]
          exact ih m h1 (by omega) (by omega) (by omega)
        · rw [kB_p ((rb_lt5 h hi h2).mpr d), if_neg d]
          exact b63 _ h2
theorem rb_nxI (N : Nat) (hN : 101 ≤ N) {n : Nat} (hn : n ≤ 5) {SA : Nat → Int32} {g : Nat → Nat} (h : rbRw SA g n) : ∀ (i m : Nat), i < n → i < m → match rbNxI g i with
    | none => f_X11_nextOrder_l12 N m SA (nI n) (nI i - 1) = some (0, SA)
    | some q => ∃ SB, f_X11_nextOrder_l12 N m SA (nI n) (nI i - 1) = some (1, SB) ∧ rbRw SB (rbRv 5 (rbSw g q (rbNxJ g q (n - 1))) (q + 1) (n - 1)) n
  | i, 0, _, h2 => by omega
  | 0, m + 1, h1, h2 => by
    show f_X11_nextOrder_l12 N (m + 1) SA (nI n) (nI 0 - 1) = some (0, SA)
    rw [s_X11_nextOrder_l12]
    show kB _ _ _ = _
    rw [kB_p (by decide)]
    unfold f_X11_nextOrder_b33
    rw [kB_n (by decide)]
  | i + 1, m + 1, h1, h2 => by
    have ih := rb_nxI N hN hn h i m (by omega) (by omega)
    have e : rbNxI g (i + 1) = if g (i + 1) < g i then rbNxI g i else some i := rfl
    rw [e, nI_pred, s_X11_nextOrder_l12]
    by_cases c : g (i + 1) < g i
    · rw [if_pos c]
      have step : (kB (nI i < 0) (f_X11_nextOrder_b33 N SA (nI n) (nI i)) (kO (¬ (nI i < 0 ∨ 5 ≤ Int32.toNatClampNeg (nI i))) (kL (nI i + 1) (fun v5 => kO (¬ (v5 < 0 ∨ 5 ≤ Int32.toNatClampNeg v5)) (kB ((SA (Int32.toNatClampNeg (nI i))) ≤ (SA (Int32.toNatClampNeg v5))) (f_X11_nextOrder_b33 N SA (nI n) (nI i)) (kL (nI i + (-1)) (fun v8 => f_X11_nextOrder_l12 N m SA (nI n) v8))))))) = f_X11_nextOrder_l12 N m SA (nI n) (nI i - 1) := by
        rw [kB_n (nI_pos (by omega)), kO_p (nI_in (by omega) (by decide)), kL_p, nI_1, kO_p (nI_in (by omega) (by decide)), nI_clamp (by omega), nI_clamp (by omega), kB_n (fun q => (rb_lt5 h (by omega) h1).mp q c), kL_p, ← Int32.sub_eq_add_neg]
      show match rbNxI g i with
        | none => kB _ _ _ = _
        | some q => ∃ SB, kB _ _ _ = _ ∧ _
      rw [step]
      exact ih
    · rw [if_neg c]
      show ∃ SB, kB _ _ _ = _ ∧ _
      rw [kB_n (nI_pos (by omega)), kO_p (nI_in (by omega) (by decide)), kL_p, nI_1, kO_p (nI_in (by omega) (by decide)), nI_clamp (by omega), nI_clamp (by omega), kB_p ((rb_lt5 h (by omega) h1).mpr c)]
      unfold f_X11_nextOrder_b33
      obtain ⟨n', rfl⟩ : ∃ n', n = n' + 1 := ⟨n - 1, by omega⟩
      rw [kB_p (nI_pos' (by omega)), kL_p, nI_pred]
      exact rb_nxJ N hN hn h (by omega) n' N (by omega) (by omega) (by omega) (by omega)
theorem rb_next {N : Nat} (hN : 101 ≤ N) {n : Nat} (hn : n ≤ 5) {SA : Nat → Int32} {g : Nat → Nat} (h : rbRw SA g n) : match rbNext n g with
    | none => f_X11_nextOrder N SA (nI n) = some (0, SA)
    | some g' => ∃ SB, f_X11_nextOrder N SA (nI n) = some (1, SB) ∧ rbRw SB g' n := by
  have e0 : f_X11_nextOrder N SA (nI n) = f_X11_nextOrder_l12 N N SA (nI n) (nI n - 2) := by
    unfold f_X11_nextOrder
    rw [kB_p (show nI n ≤ Int32.ofNat 5 from nI_le (b := 5) hn (by decide)), kL_p]
  cases n with
  | zero =>
    show f_X11_nextOrder N SA (nI 0) = some (0, SA)
    rw [e0]
    obtain ⟨m, rfl⟩ : ∃ m, N = m + 1 := ⟨N - 1, by omega⟩
    rw [s_X11_nextOrder_l12]
    show kB _ _ _ = _
    rw [kB_p (by decide)]
    unfold f_X11_nextOrder_b33
    rw [kB_n (by decide)]
  | succ n =>
    have e2 : nI (n + 1) - 2 = nI n - 1 := by
      have : (2 : Int32) = 1 + 1 := by decide
      rw [← nI_1, this]
      grind
    have hx := rb_nxI N hN hn h n N (by omega) (by omega)
    rw [← e2, ← e0] at hx
    unfold rbNext
    show match (match rbNxI g n with
      | none => none
      | some i => some (rbRv 5 (rbSw g i (rbNxJ g i n)) (i + 1) n)) with
      | none => f_X11_nextOrder N SA (nI (n + 1)) = some (0, SA)
      | some g' => ∃ SB, f_X11_nextOrder N SA (nI (n + 1)) = some (1, SB) ∧ rbRw SB g' (n + 1)
    cases hq : rbNxI g n with
    | none =>
      rw [hq] at hx
      exact hx
    | some q =>
      rw [hq] at hx
      exact hx
