/-! B: what is copied, kept and put back -/
def rbHK : List Nat := [7, 8, 9, 10, 11, 12, 13, 14, 15, 16, 18, 19]
def rbEq (A B : zHS) : Prop := (∀ k : Nat, k ∈ rbHK → A.1 k = B.1 k) ∧ (∀ t : Nat, t < 7 → A.2.1 0 t = B.2.1 0 t ∧ A.2.1 1 t = B.2.1 1 t ∧ A.2.1 2 t = B.2.1 2 t) ∧ (∀ i : Nat, i < 16 → A.2.1 4 i = B.2.1 4 i) ∧ (∀ i : Nat, i < 8 → A.2.1 5 i = B.2.1 5 i) ∧ (∀ i : Nat, i < 12 → A.2.1 6 i = B.2.1 6 i) ∧ (∀ i : Nat, i < 4 → A.2.2.1 i = B.2.2.1 i) ∧ A.2.2.2 = B.2.2.2
section RBC
variable {N : Nat} {S K : zHS} {SM : zMS} {SD : List (Nat × zPS)} {SE : List ((Nat → Nat) × zQS)} {nT nP : Nat} {L : List rbCl}
theorem rb_copy8 (h5 : ∀ i : Nat, i < 8 → K.2.1 5 i = 0 ∨ K.2.1 5 i = 1) : ∀ (j x n : Nat) (S : zHS), x + j = 8 → j < n → (∀ i : Nat, i < x → S.2.1 5 i = K.2.1 5 i) → ∃ S' : zHS, f_X1_copy_l87 N K SD n S (nI x) = some S' ∧ (∀ k : Nat, k ∈ rbHK → S'.1 k = K.1 k) ∧ S'.2.1 0 = S.2.1 0 ∧ S'.2.1 1 = S.2.1 1 ∧ S'.2.1 2 = S.2.1 2 ∧ S'.2.1 4 = S.2.1 4 ∧ (∀ i : Nat, i < 8 → S'.2.1 5 i = K.2.1 5 i) ∧ (∀ i : Nat, i < 12 → S'.2.1 6 i = K.2.1 6 i) ∧ S'.2.2.1 = S.2.2.1 ∧ S'.2.2.2 = K.2.2.2
  | j, x, 0, S, _, hn, _ => by omega
  | 0, x, n + 1, S, hx, _, hp => by
    have hx : x = 8 := by omega
    subst hx
    rw [s_X1_copy_l87]
    show ∃ S', kB _ _ _ = _ ∧ _
    rw [kB_p (by decide)]
    simp only [kL_p]
    refine ⟨_, rfl, ?_, rfl, rfl, rfl, rfl, hp, ?_, rfl, rfl⟩
    · intro k hk
      simp only [rbHK, List.mem_cons, List.not_mem_nil, or_false] at hk
      rcases hk with rfl | rfl | rfl | rfl | rfl | rfl | rfl | rfl | rfl | rfl | rfl | rfl <;> rfl
    · intro i hi
      show va_cpy (K.2.1 6) (S.2.1 6) 0 0 12 i = _
      rw [pk_cpy_in (by omega) (by omega), Nat.zero_add, Nat.sub_zero]
  | j + 1, x, n + 1, S, hx, hn, hp => by
    have ih := rb_copy8 h5 j (x + 1) n (hSA S 5 (upd (S.2.1 5) x (K.2.1 5 x))) (by omega) (by omega) (by
      intro i hi
      rw [hSA_s]
      by_cases c : i = x
      · subst c; rw [pk_us]
      · rw [pk_un c]; exact hp i (by omega))
    rw [s_X1_copy_l87]
    show ∃ S', kB _ _ _ = _ ∧ _
    rw [kB_n (show ¬ (8 : Int32) ≤ nI x from nI_ge (b := 8) (by omega) (by omega)), kO_p (nI_in (by omega) (by decide)), kO_p (nI_in (by omega) (by decide)), nI_clamp (by omega), kO_p (h5 x (by omega)), kL_p, kL_p, nI_1]
    exact ih
theorem rb_copy4 (h5 : ∀ i : Nat, i < 8 → K.2.1 5 i = 0 ∨ K.2.1 5 i = 1) (hk : ∀ i : Nat, i < 4 → pok SD (K.2.2.1 i) = true) (hN : 101 ≤ N) : ∀ (j x n : Nat) (S : zHS), x + j = 4 → j < n → (∀ i : Nat, i < x → S.2.2.1 i = K.2.2.1 i) → (∀ t : Nat, t < 7 → S.2.1 0 t = K.2.1 0 t ∧ S.2.1 1 t = K.2.1 1 t ∧ S.2.1 2 t = K.2.1 2 t) → ∃ S' : zHS, f_X1_copy_l47 N K SD n S (nI x) = some S' ∧ rbEq S' K
  | j, x, 0, S, _, hn, _, _ => by omega
  | 0, x, n + 1, S, hx, _, hp, h7 => by
    have hx : x = 4 := by omega
    subst hx
    obtain ⟨S', e1, e2, e3, e4, e5, e6, e7, e8, e9, e10⟩ := rb_copy8 (N := N) (SD := SD) h5 8 0 N (hSA S 4 (va_cpy (K.2.1 4) (S.2.1 4) 0 0 16)) (by omega) (by omega) (fun i hi => by omega)
    refine ⟨S', ?_, e2, ?_, ?_, e7, e8, ?_, e10⟩
    · rw [s_X1_copy_l47]
      show kB _ _ _ = _
      rw [kB_p (by decide), kL_p]
      exact e1
    · intro t ht
      rw [e3, e4, e5]
      exact h7 t ht
    · intro i hi
      rw [e6, hSA_s, pk_cpy_in (by omega) (by omega), Nat.zero_add, Nat.sub_zero]
    · intro i hi
      rw [e9]
      exact hp i hi
  | j + 1, x, n + 1, S, hx, hn, hp, h7 => by
    have ih := rb_copy4 h5 hk hN j (x + 1) n (hSP S (va_up S.2.2.1 x (K.2.2.1 x))) (by omega) (by omega) (by
      intro i hi
      show va_up S.2.2.1 x (K.2.2.1 x) i = _
      by_cases c : i = x
      · subst c; rw [va_up_self]
      · rw [va_up_ne _ _ c]; exact hp i (by omega)) h7
    rw [s_X1_copy_l47]
    show ∃ S', kB _ _ _ = _ ∧ _
    rw [kB_n (show ¬ (4 : Int32) ≤ nI x from nI_ge (b := 4) (by omega) (by omega)), kO_p (nI_in (by omega) (by decide)), kO_p (nI_in (by omega) (by decide)), nI_clamp (by omega), kO_p (hk x (by omega)), kL_p, kL_p, nI_1]
    exact ih
theorem rb_copy (hN : 101 ≤ N) (h5 : ∀ i : Nat, i < 8 → K.2.1 5 i = 0 ∨ K.2.1 5 i = 1) (hk : ∀ i : Nat, i < 4 → pok SD (K.2.2.1 i) = true) (S : zHS) : ∃ S' : zHS, f_X1_copy N S K SD = some S' ∧ rbEq S' K := by
  unfold f_X1_copy
  simp only [kL_p]
  refine rb_copy4 h5 hk hN 4 0 N _ (by omega) (by omega) (fun i hi => by omega) ?_
  intro t ht
  have hc : ∀ f g : Nat → Int32, va_cpy f g 0 0 7 t = f t := by
    intro f g
    rw [pk_cpy_in (by omega) (by omega), Nat.zero_add, Nat.sub_zero]
  exact ⟨hc _ _, hc _ _, hc _ _⟩
theorem rbK.eq {S' : zHS} (e : rbEq S' S) (h : rbK S SM SD nT nP L) : rbK S' SM SD nT nP L := by
  obtain ⟨⟨a1, a2, a3⟩, ⟨b1, b2, b3⟩, c, d, f, q, m, w, l1, l2⟩ := h
  obtain ⟨e1, e2, e3, e4, e5, e6, e7⟩ := e
  refine ⟨⟨(e1 7 (by decide)).trans a1, a2, a3⟩, ⟨(e1 8 (by decide)).trans b1, b2, b3⟩, ?_, d, ?_, ?_, m, w, (e1 19 (by decide)).trans l1, ?_⟩
  · intro t ht
    rw [(e2 t ht).1, (e2 t ht).2.1]
    exact c t ht
  · intro i hi
    rw [e3 i hi]
    exact f i hi
  · intro p hp
    rw [e6 p (by omega)]
    exact q p hp
  · rw [e1 18 (by decide)]
    exact l2
theorem rbE.eq {S' : zHS} (e : rbEq S' S) (h : rbE S SM) : rbE S' SM := by
  obtain ⟨a1, a2, a3, a4, a5, a6, a7, a8⟩ := h
  obtain ⟨e1, e2, -⟩ := e
  refine ⟨(e1 11 (by decide)).trans a1, a2, (e1 12 (by decide)).trans a3, (e1 13 (by decide)).trans a4, (e1 14 (by decide)).trans a5, (e1 16 (by decide)).trans a6, a7, ?_⟩
  intro t ht
  rw [(e2 t ht).2.2]
  exact a8 t ht
theorem rbCc.eq {S' : zHS} (e : rbEq S' S) (h : rbCc S SE L) : rbCc S' SE L := h.e e.2.2.2.2.2.2 rbSE.rf
theorem rb_start (hN : 101 ≤ N) (h7 : K.1 7 = nI nT) (hT : nT ≤ 7) (h5 : ∀ i : Nat, i < 8 → K.2.1 5 i = 0 ∨ K.2.1 5 i = 1) (hk : ∀ i : Nat, i < 4 → pok SD (K.2.2.1 i) = true) (ST : zTS) (S : zHS) :
    ∃ (ST' : zTS) (S' : zHS), f_X10_start N ST S K SD = some (ST', S') ∧ rbEq S' K ∧ ST'.1 2 = nI nT ∧ (∀ i : Nat, i < nT → ST'.2 i = nI i) ∧ ST'.1 3 = K.1 15 ∧ ST'.1 4 = 1000 ∧ ST'.1 5 = 0 ∧ ST'.1 6 = 0 := by
  obtain ⟨S', e1, e2⟩ := rb_copy (SD := SD) hN h5 hk S
  have lp : ∀ (j x n : Nat) (ST : zTS), x + j = nT → j < n → ST.1 2 = nI nT → (∀ i : Nat, i < x → ST.2 i = nI i) → ∃ ST' : zTS, f_X10_start_l23 N K SD n ST S' (nI x) = some (ST', S') ∧ ST'.1 2 = nI nT ∧ (∀ i : Nat, i < nT → ST'.2 i = nI i) ∧ ST'.1 3 = K.1 15 ∧ ST'.1 4 = 1000 ∧ ST'.1 5 = 0 ∧ ST'.1 6 = 0 := by
    intro j
    induction j with
    | zero =>
      intro x n ST hx hn h2 hp
      cases n with
      | zero => omega
      | succ n =>
        have hx : x = nT := by omega
        subst hx
        rw [s_X10_start_l23]
        show ∃ ST', kB _ _ _ = _ ∧ _
        rw [h2, kB_p (nI_le (by omega) (by omega))]
        exact ⟨_, rfl, h2, hp, rfl, rfl, rfl, rfl⟩
    | succ j ih =>
      intro x n ST hx hn h2 hp
      cases n with
      | zero => omega
      | succ n =>
        rw [s_X10_start_l23]
        show ∃ ST', kB _ _ _ = _ ∧ _
        rw [h2, kB_n (nI_ge (by omega) (by omega)), kO_p (nI_in (by omega) (by decide)), nI_clamp (by omega), kL_p, kL_p, nI_1]
        refine ih (x + 1) n _ (by omega) (by omega) h2 ?_
        intro i hi
        show upd ST.2 x (nI x) i = _
        by_cases c : i = x
        · subst c; rw [pk_us]
        · rw [pk_un c]; exact hp i (by omega)
  have hmin : (if (7 : Int32) < K.1 7 then 7 else K.1 7) = nI nT := by
    rw [h7, if_neg (show ¬ (7 : Int32) < nI nT from nI_nlt (a := 7) hT (by decide))]
  obtain ⟨ST', f1, f2⟩ := lp nT 0 N (tSI ST 2 (nI nT)) (by omega) (by omega) (tSI_s _ _ _) (fun i hi => by omega)
  refine ⟨ST', S', ?_, e2, f2⟩
  unfold f_X10_start
  rw [e1, kC_p, hmin]
  exact f1
/-- the reference keeps -/
def rbKI : List Nat := [36, 37, 38, 39, 40, 41, 42]
def rbKept (A B : zMS) : Prop := (∀ k : Nat, k ∉ rbKI → B.1 k = A.1 k) ∧ (∀ k : Nat, k ≠ 43 → B.2.1 k = A.2.1 k) ∧ B.2.2 = A.2.2 ∧ B.1 36 = A.1 33 ∧ B.1 37 = A.1 2 ∧ B.1 38 = A.1 3 ∧ B.1 39 = A.1 4 ∧ B.1 40 = A.1 5 ∧ B.1 41 = A.1 6 ∧ B.1 42 = A.1 7 ∧ ∀ t : Nat, t < 7 → B.2.1 43 t = A.2.1 10 t
theorem rb_save (hN : 101 ≤ N) (SM : zMS) : ∃ SM1, f_X12_save N SM = some SM1 ∧ rbKept SM SM1 := by
  have lp : ∀ (j x n : Nat) (A : zMS), x + j = 7 → j < n → (∀ i : Nat, i < x → A.2.1 43 i = A.2.1 10 i) → ∃ B : zMS, f_X12_save_l58 N n A (nI x) = some B ∧ B.1 = A.1 ∧ (∀ k : Nat, k ≠ 43 → B.2.1 k = A.2.1 k) ∧ B.2.2 = A.2.2 ∧ ∀ t : Nat, t < 7 → B.2.1 43 t = A.2.1 10 t := by
    intro j
    induction j with
    | zero =>
      intro x n A hx hn hp
      cases n with
      | zero => omega
      | succ n =>
        have hx : x = 7 := by omega
        subst hx
        rw [s_X12_save_l58]
        show ∃ B, kB _ _ _ = _ ∧ _
        rw [kB_p (by decide)]
        exact ⟨A, rfl, rfl, fun _ _ => rfl, rfl, hp⟩
    | succ j ih =>
      intro x n A hx hn hp
      cases n with
      | zero => omega
      | succ n =>
        rw [s_X12_save_l58]
        show ∃ B, kB _ _ _ = _ ∧ _
        rw [kB_n (show ¬ (7 : Int32) ≤ nI x from nI_ge (b := 7) (by omega) (by omega)), kO_p (nI_in (by omega) (by decide)), kO_p (nI_in (by omega) (by decide)), nI_clamp (by omega), kL_p, kL_p, nI_1]
        obtain ⟨B, b1, b2, b3, b4, b5⟩ := ih (x + 1) n (mSA A 43 (upd (A.2.1 43) x (A.2.1 10 x))) (by omega) (by omega) (by
          intro i hi
          rw [mSA_s, mSA_o _ _ (by decide)]
          by_cases c : i = x
          · subst c; rw [pk_us]
          · rw [pk_un c]; exact hp i (by omega))
        refine ⟨B, b1, b2, fun k hk => (b3 k hk).trans (mSA_o _ _ hk), b4, fun t ht => (b5 t ht).trans ?_⟩
        rw [mSA_o _ _ (by decide)]
  unfold f_X12_save
  simp only [kL_p]
  obtain ⟨B, b1, b2, b3, b4, b5⟩ := lp 7 0 N _ (by omega) (by omega) (fun i hi => by omega)
  refine ⟨B, b1, ?_, fun k hk => (b3 k hk).trans rfl, b4, ?_, ?_, ?_, ?_, ?_, ?_, ?_, fun t ht => (b5 t ht).trans rfl⟩
  · intro k hk
    rw [b2]
    simp only [rbKI, List.mem_cons, List.not_mem_nil, or_false, not_or] at hk
    obtain ⟨k1, k2, k3, k4, k5, k6, k7⟩ := hk
    rw [mSI_o _ _ k7, mSI_o _ _ k6, mSI_o _ _ k5, mSI_o _ _ k4, mSI_o _ _ k3, mSI_o _ _ k2, mSI_o _ _ k1]
  all_goals (rw [b2]; rfl)
/-- equal but for what nothing rests on -/
def rbJI : List Nat := [35, 36, 37, 38, 39, 40, 41, 42]
def rbJA : List Nat := [10, 31, 43, 44, 45]
def rbJ (A B : zMS) : Prop := (∀ k : Nat, k ∉ rbJI → B.1 k = A.1 k) ∧ (∀ k : Nat, k ∉ rbJA → B.2.1 k = A.2.1 k) ∧ (∀ t : Nat, t < 7 → B.2.1 10 t = A.2.1 10 t) ∧ B.2.2 = A.2.2
theorem rbJ.rf {A : zMS} : rbJ A A := ⟨fun _ _ => rfl, fun _ _ => rfl, fun _ _ => rfl, rfl⟩
theorem rbJ.tr {A B C : zMS} (h : rbJ A B) (k : rbJ B C) : rbJ A C := ⟨fun i hi => (k.1 i hi).trans (h.1 i hi), fun i hi => (k.2.1 i hi).trans (h.2.1 i hi), fun t ht => (k.2.2.1 t ht).trans (h.2.2.1 t ht), k.2.2.2.trans h.2.2.2⟩
theorem rb_putBack (hN : 101 ≤ N) {A SM1 B : zMS} (h : rbKept A SM1) (f : rbFr SM1 B) : ∃ C, f_X12_putBack N B = some C ∧ rbJ A C ∧ C.1 35 = B.1 35 ∧ ∀ k : Nat, k ≠ 10 → C.2.1 k = B.2.1 k := by
  have lp : ∀ (j x n : Nat) (A : zMS), x + j = 7 → j < n → (∀ i : Nat, i < x → A.2.1 10 i = A.2.1 43 i) → ∃ B : zMS, f_X12_putBack_l58 N n A (nI x) = some B ∧ B.1 = A.1 ∧ (∀ k : Nat, k ≠ 10 → B.2.1 k = A.2.1 k) ∧ B.2.2 = A.2.2 ∧ ∀ t : Nat, t < 7 → B.2.1 10 t = A.2.1 43 t := by
    intro j
    induction j with
    | zero =>
      intro x n A hx hn hp
      cases n with
      | zero => omega
      | succ n =>
        have hx : x = 7 := by omega
        subst hx
        rw [s_X12_putBack_l58]
        show ∃ B, kB _ _ _ = _ ∧ _
        rw [kB_p (by decide)]
        exact ⟨A, rfl, rfl, fun _ _ => rfl, rfl, hp⟩
    | succ j ih =>
      intro x n A hx hn hp
      cases n with
      | zero => omega
      | succ n =>
        rw [s_X12_putBack_l58]
        show ∃ B, kB _ _ _ = _ ∧ _
        rw [kB_n (show ¬ (7 : Int32) ≤ nI x from nI_ge (b := 7) (by omega) (by omega)), kO_p (nI_in (by omega) (by decide)), kO_p (nI_in (by omega) (by decide)), nI_clamp (by omega), kL_p, kL_p, nI_1]
        obtain ⟨B, b1, b2, b3, b4, b5⟩ := ih (x + 1) n (mSA A 10 (upd (A.2.1 10) x (A.2.1 43 x))) (by omega) (by omega) (by
          intro i hi
          rw [mSA_s, mSA_o _ _ (by decide)]
          by_cases c : i = x
          · subst c; rw [pk_us]
          · rw [pk_un c]; exact hp i (by omega))
        refine ⟨B, b1, b2, fun k hk => (b3 k hk).trans (mSA_o _ _ hk), b4, fun t ht => (b5 t ht).trans ?_⟩
        rw [mSA_o _ _ (by decide)]
  unfold f_X12_putBack
  simp only [kL_p]
  obtain ⟨C, b1, b2, b3, b4, b5⟩ := lp 7 0 N _ (by omega) (by omega) (fun i hi => by omega)
  obtain ⟨k1, k2, k3, k36, k37, k38, k39, k40, k41, k42, k43⟩ := h
  obtain ⟨f1, f2, f3⟩ := f
  refine ⟨C, b1, ⟨?_, ?_, ?_, b4.trans (f3.trans k3)⟩, by rw [b2]; rfl, fun k hk => (b3 k hk).trans rfl⟩
  · intro k hk
    rw [b2]
    simp only [rbJI, List.mem_cons, List.not_mem_nil, or_false, not_or] at hk
    by_cases c : k ∈ rbDI
    · simp only [rbDI, List.mem_cons, List.not_mem_nil, or_false] at c
      rcases c with rfl | rfl | rfl | rfl | rfl | rfl | rfl | rfl
      · exact (f1 37 (by decide)).trans k37
      · exact (f1 38 (by decide)).trans k38
      · exact (f1 39 (by decide)).trans k39
      · exact (f1 40 (by decide)).trans k40
      · exact (f1 41 (by decide)).trans k41
      · exact (f1 42 (by decide)).trans k42
      · exact (f1 36 (by decide)).trans k36
      · exact absurd rfl hk.1
    · have c' := c
      simp only [rbDI, List.mem_cons, List.not_mem_nil, or_false, not_or] at c
      obtain ⟨c1, c2, c3, c4, c5, c6, c7, c8⟩ := c
      rw [mSI_o _ _ c6, mSI_o _ _ c5, mSI_o _ _ c4, mSI_o _ _ c3, mSI_o _ _ c2, mSI_o _ _ c1, mSI_o _ _ c7]
      refine (f1 k c').trans (k1 k ?_)
      simp only [rbKI, List.mem_cons, List.not_mem_nil, or_false, not_or]
      exact hk.2
  · intro k hk
    simp only [rbJA, List.mem_cons, List.not_mem_nil, or_false, not_or] at hk
    refine (b3 k hk.1).trans ((f2 k ?_).trans (k2 k hk.2.2.1))
    simp only [rbDA, List.mem_cons, List.not_mem_nil, or_false, not_or]
    exact ⟨hk.1, hk.2.1⟩
  · intro t ht
    refine (b5 t ht).trans ?_
    show B.2.1 43 t = _
    rw [f2 43 (by decide)]
    exact k43 t ht
end RBC
