/-! B: how all is, on both sides -/
def rbNow (SN : zHS) (SM : zMS) (SD : List (Nat × zPS)) (SE : List ((Nat → Nat) × zQS)) (nT nP : Nat) (L : List rbCl) : Prop :=
  rbK SN SM SD nT nP L ∧ rbE SN SM ∧ rbCc SN SE L ∧ (∃ o : Nat, SN.1 15 = nI o ∧ SM.1 7 = nI o ∧ (o < nT ∨ nT = 0 ∧ o = 0) ∧ o ≤ 7) ∧ SM.1 32 = -1 ∧ SM.1 33 = -1 ∧ SM.1 34 = -1 ∧
  (∀ i : Nat, i < 4 → pok SD (SN.2.2.1 i) = true) ∧ (∀ i : Nat, i < 8 → SN.2.1 5 i = SM.2.1 47 i ∧ (SM.2.1 47 i = 0 ∨ SM.2.1 47 i = 1)) ∧ (∃ h : Nat, h ≤ 8 ∧ SN.1 9 = nI h ∧ SM.1 46 = nI h) ∧
  (∃ k : Nat, k ≤ 12 ∧ SN.1 10 = nI k ∧ SM.1 48 = nI k ∧ ∀ i : Nat, i < k → ∃ p : Nat, p < nP ∧ SN.2.1 6 i = nI p ∧ SM.2.1 49 i = nI p) ∧ ∃ e : Nat, e ≤ 9999 ∧ SM.1 2 = nI e
theorem rbK.e {S : zHS} {SM SM' : zMS} {SD : List (Nat × zPS)} {nT nP : Nat} {L : List rbCl} (i0 : SM'.1 0 = SM.1 0) (i1 : SM'.1 1 = SM.1 1) (i15 : SM'.1 15 = SM.1 15) (i32 : SM'.1 32 = SM.1 32) (ha : ∀ k : Nat, k ∈ ([8, 9, 11, 12, 13, 20, 21, 22, 23, 24, 25] : List Nat) → SM'.2.1 k = SM.2.1 k) (h : rbK S SM SD nT nP L) : rbK S SM' SD nT nP L := by
  obtain ⟨⟨a1, a2, a3⟩, ⟨b1, b2, b3⟩, c, d, e, q, m, w, l1, l2⟩ := h
  refine ⟨⟨a1, i0.trans a2, a3⟩, ⟨b1, i1.trans b2, b3⟩, ?_, ?_, ?_, ?_, ?_, w, l1, ?_⟩
  · rw [ha 8 (by decide), ha 9 (by decide)]; exact c
  · rw [ha 8 (by decide)]; exact d
  · rw [ha 13 (by decide)]; exact e
  · rw [ha 11 (by decide), ha 12 (by decide)]; exact q
  · exact m.e i15 (ha 20 (by decide)) (ha 21 (by decide)) (ha 22 (by decide)) (ha 23 (by decide)) (ha 24 (by decide)) (ha 25 (by decide))
  · rw [i32]; exact l2
theorem rbE.e {S : zHS} {SM SM' : zMS} (hi : ∀ k : Nat, k ∈ ([2, 3, 4, 5, 6] : List Nat) → SM'.1 k = SM.1 k) (h10 : ∀ t : Nat, t < 7 → SM'.2.1 10 t = SM.2.1 10 t) (h : rbE S SM) : rbE S SM' := by
  obtain ⟨a1, a2, a3, a4, a5, a6, a7, a8⟩ := h
  refine ⟨?_, ?_, ?_, ?_, ?_, ?_, ?_, ?_⟩
  · rw [hi 3 (by decide)]; exact a1
  · rw [hi 3 (by decide)]; exact a2
  · rw [hi 4 (by decide)]; exact a3
  · rw [hi 5 (by decide)]; exact a4
  · rw [hi 6 (by decide)]; exact a5
  · rw [hi 2 (by decide)]; exact a6
  · rw [hi 2 (by decide)]; exact a7
  · intro t ht; rw [h10 t ht]; exact a8 t ht
theorem mem_ne {k : Nat} {A B : List Nat} (h : A.all (fun x => !(B.contains x)) = true) (hk : k ∈ A) : k ∉ B := by
  intro hb
  have := List.all_eq_true.mp h k hk
  simp at this
  exact this hb
section RBN
variable {N : Nat} {SN S : zHS} {SM SM0 SM1 : zMS} {SD : List (Nat × zPS)} {SE SE' : List ((Nat → Nat) × zQS)} {nT nP p : Nat} {L : List rbCl}
theorem rbKept.K (h : rbKept SM0 SM1) (k : rbK S SM0 SD nT nP L) : rbK S SM1 SD nT nP L :=
  k.e (h.1 0 (by decide)) (h.1 1 (by decide)) (h.1 15 (by decide)) (h.1 32 (by decide)) (fun j hj => h.2.1 j (by intro e; subst e; revert hj; decide))
theorem rbKept.E (h : rbKept SM0 SM1) (k : rbE S SM0) : rbE S SM1 :=
  k.e (fun j hj => h.1 j (mem_ne (by decide) hj)) (fun t _ => by rw [h.2.1 10 (by decide)])
theorem rbJ.K (h : rbJ SM0 SM1) (k : rbK S SM0 SD nT nP L) : rbK S SM1 SD nT nP L :=
  k.e (h.1 0 (by decide)) (h.1 1 (by decide)) (h.1 15 (by decide)) (h.1 32 (by decide)) (fun j hj => h.2.1 j (mem_ne (by decide) hj))
theorem rbJ.E (h : rbJ SM0 SM1) (k : rbE S SM0) : rbE S SM1 :=
  k.e (fun j hj => h.1 j (mem_ne (by decide) hj)) h.2.2.1
theorem rbNow.j (j : rbJ SM SM1) (s : rbSE SE SE') (h : rbNow SN SM SD SE nT nP L) : rbNow SN SM1 SD SE' nT nP L := by
  obtain ⟨a, b, c, d, e, f, g, h1, h2, h3, h4, h5⟩ := h
  refine ⟨j.K a, j.E b, c.e rfl s, ?_, (j.1 32 (by decide)).trans e, (j.1 33 (by decide)).trans f, (j.1 34 (by decide)).trans g, h1, ?_, ?_, ?_, ?_⟩
  · rw [j.1 7 (by decide)]; exact d
  · rw [j.2.1 47 (by decide)]; exact h2
  · rw [j.1 46 (by decide)]; exact h3
  · rw [j.1 48 (by decide), j.2.1 49 (by decide)]; exact h4
  · rw [j.1 2 (by decide)]; exact h5
theorem rb_pc (h : rbK SN SM SD nT nP L) (x : Int32) : (f_X1_person SN x = some none ∧ f_X12_isParent SM x = some 0) ∨ ∃ (p w k v : Nat), p < nP ∧ x = nI p ∧ f_X1_person SN x = some (some w) ∧ SN.2.2.1 p = some w ∧ plook SD w = some (nI k, nI p, nI v) ∧ k < 7 ∧ v ≤ 9 ∧ SM.2.1 11 p = nI k ∧ SM.2.1 12 p = nI v ∧ f_X12_isParent SM x = some 1 := by
  obtain ⟨-, ⟨b1, b2, b3⟩, -, -, -, q, -⟩ := h
  rcases pk_ix x (n := nP) (by omega) with hx | hx | ⟨p, hp, rfl⟩
  · left
    unfold f_X1_person f_X12_isParent f_X12_in
    rw [kB_p hx, kL_p, kB_p hx, kC_p, kO_p (by decide)]
    exact ⟨rfl, rfl⟩
  · left
    unfold f_X1_person f_X12_isParent f_X12_in
    have h0 : ¬ x < 0 := by
      rw [Int32.le_iff_toInt_le, nI_toInt (by omega)] at hx
      rw [Int32.lt_iff_toInt_lt]
      have : (0 : Int32).toInt = 0 := rfl
      omega
    obtain ⟨y, hy, rfl⟩ := nI_of h0
    have hy2 : nP ≤ y := (nI_leI (by omega) hy).mp hx
    have e1 : (1 : Int32) = nI 1 := rfl
    have hlt : nI nP - 1 < nI y := by
      rw [Int32.lt_iff_toInt_lt, e1, pk_sub_toInt (by omega) (by omega), nI_toInt hy]
      omega
    rw [kB_n h0, b1, kB_p hx, kL_p, b2, kB_n h0, kB_p hlt, kC_p, kO_p (by decide)]
    exact ⟨rfl, rfl⟩
  · right
    obtain ⟨w, k, v, w1, w2, k7, v9, w3, w4⟩ := q p hp
    refine ⟨p, w, k, v, hp, rfl, ?_, w1, w2, k7, v9, w3, w4, ?_⟩
    · unfold f_X1_person
      rw [kB_n (nI_pos (by omega)), b1, kB_n (nI_ge hp (by omega)), kB_n (show ¬ (4 : Int32) ≤ nI p from nI_ge (b := 4) (by omega) (by decide)), kO_p (nI_in (by omega) (by decide)), nI_clamp (by omega), w1]
    · unfold f_X12_isParent f_X12_in
      have e1 : (1 : Int32) = nI 1 := rfl
      have hlt : ¬ nI nP - 1 < nI p := by
        rw [Int32.lt_iff_toInt_lt, e1, pk_sub_toInt (by omega) (by omega), nI_toInt (by omega)]
        omega
      rw [kL_p, kB_n (nI_pos (by omega)), b2, kB_n hlt, kC_p, kO_p (by decide)]
theorem rb_tc (h : rbK SN SM SD nT nP L) (x : Int32) : (f_X1_has SN x = some 0 ∧ f_X12_isThing SM x = some 0) ∨ ∃ t : Nat, t < nT ∧ x = nI t ∧ f_X1_has SN x = some 1 ∧ f_X12_isThing SM x = some 1 := by
  obtain ⟨⟨a1, a2, a3⟩, -⟩ := h
  rcases pk_ix x (n := nT) (by omega) with hx | hx | ⟨t, ht, rfl⟩
  · left
    refine ⟨rb_has0 a1 (Or.inl hx), ?_⟩
    unfold f_X12_isThing f_X12_in
    rw [kL_p, kB_p hx, kC_p, kO_p (by decide)]
  · left
    refine ⟨rb_has0 a1 (Or.inr hx), ?_⟩
    unfold f_X12_isThing f_X12_in
    have h0 : ¬ x < 0 := by
      rw [Int32.le_iff_toInt_le, nI_toInt (by omega)] at hx
      rw [Int32.lt_iff_toInt_lt]
      have : (0 : Int32).toInt = 0 := rfl
      omega
    obtain ⟨y, hy, rfl⟩ := nI_of h0
    have hy2 : nT ≤ y := (nI_leI (by omega) hy).mp hx
    have e1 : (1 : Int32) = nI 1 := rfl
    have hlt : nI nT - 1 < nI y := by
      rw [Int32.lt_iff_toInt_lt, e1, pk_sub_toInt (by omega) (by omega), nI_toInt hy]
      omega
    rw [kL_p, a2, kB_n h0, kB_p hlt, kC_p, kO_p (by decide)]
  · right
    refine ⟨t, ht, rfl, rb_has a1 a3 ht, ?_⟩
    unfold f_X12_isThing f_X12_in
    have e1 : (1 : Int32) = nI 1 := rfl
    have hlt : ¬ nI nT - 1 < nI t := by
      rw [Int32.lt_iff_toInt_lt, e1, pk_sub_toInt (by omega) (by omega), nI_toInt (by omega)]
      omega
    rw [kL_p, kB_n (nI_pos (by omega)), a2, kB_n hlt, kC_p, kO_p (by decide)]
theorem rb_in (x lo hi : Int32) : f_X12_in SM x lo hi = some (if x < lo then 0 else if hi < x then 0 else 1) := by
  unfold f_X12_in
  by_cases c : x < lo
  · rw [kB_p c, if_pos c]
  · rw [kB_n c, if_neg c]
    by_cases d : hi < x
    · rw [kB_p d, if_pos d]
    · rw [kB_n d, if_neg d]
theorem rb_in1 {x lo hi : Int32} (h1 : ¬ x < lo) (h2 : x ≤ hi) : f_X12_in SM x lo hi = some 1 := by rw [rb_in, if_neg h1, if_neg (Int32.not_lt.mpr h2)]
theorem rb_in0 {x lo hi : Int32} (h : x < lo ∨ ¬ x ≤ hi) : f_X12_in SM x lo hi = some 0 := by
  rw [rb_in]
  by_cases c : x < lo
  · rw [if_pos c]
  · rw [if_neg c, if_pos (Int32.not_le.mp (h.resolve_left c))]
theorem rb_pos0 {ST : zTS} {o : Nat} (h2 : ST.1 2 = nI nT) (hT : nT ≤ 7) (hi : ∀ i : Nat, i < nT → ST.2 i = nI i) (h3 : ST.1 3 = nI o) (h7 : SM.1 7 = nI o) (ho : o < nT ∨ nT = 0 ∧ o = 0) (ho7 : o ≤ 7) (h34 : SM.1 34 = -1) : rbPos nT 7 ST SM := by
  have hu : rbTu nT 7 = nT := if_neg (by omega)
  refine ⟨Or.inr ⟨hT, h34⟩, by rw [hu]; exact h2, ?_, o, o, h7, h3, by omega, ho7, ho7, ?_⟩
  · intro i h
    rw [hu] at h
    unfold rbAt2
    rw [if_pos (by omega)]
    exact hi i h
  · intro h
    rw [hu] at h ⊢
    unfold rbAt2
    refine ⟨by omega, ?_⟩
    rw [if_pos (by omega), if_neg (by omega)]
/-- she sleeps at: one alone -/
theorem rb_sleeps (hN : 101 ≤ N) (hp : p < nP) {ST : zTS} {w a : Nat} (hw : S.2.2.1 p = some w) (hs : f_X12_save N SM0 = some SM1) (hk : rbKept SM0 SM1) (h : rbT S SM1 SD SE nT nP L a 60 ST) :
    ∃ (r : Int32) (ST' : zTS) (S' : zHS) (SE' : List ((Nat → Nat) × zQS)) (SM2 : zMS), f_X10_sleepsAt N ST S SD SE (some w) (some w) = some (r, ST', S', SE') ∧ f_X12_sleepsBy N SM0 (nI p) = some (r, SM2) ∧ rbJ SM0 SM2 ∧ rbSE SE SE' ∧ (r = -5 ∨ ∃ c : Nat, c ≤ 118 ∧ r = nI c) := by
  obtain ⟨ST', S', SE', SM', k, r1, r2, -, r4, ⟨q1, q2, q3, q4⟩, -⟩ := rb_run1 (a := a) hN hp (w := w) (m := 60) (Nat.le_refl _) 60 0 N N 0 ST S SE SM1 (by omega) (by omega) (by omega) hw h
  obtain ⟨w1, w2⟩ := rb_how hN r4.1 r4.2.1
  obtain ⟨C, c1, c2, -⟩ := rb_putBack hN hk q3
  unfold f_X10_sleepsAt f_X12_sleepsBy f_X10_run f_X12_goAsks
  have e60 : (60 : Int32) = nI 60 := rfl
  have e0 : (0 : Int32) = nI 0 := rfl
  have r1' : f_X10_run_l3 N SD N ST S SE (some w) (some w) 60 0 = some (ST', S', SE') := r1
  have r2' : f_X12_goAsks_l2 N N SM1 (nI p) 60 0 = some (nI k, SM') := r2
  rw [r1', kD3_p, w1, kC_p, hs, kC_p, r2', kD_p, w2, kC_p, c1]
  by_cases c : rbHow S' = 1
  · rw [kB_p c, kB_p c, kC_p, r4.2.1.1]
    exact ⟨_, _, _, _, _, rfl, rfl, c2, q1, Or.inr r4.2.1.2.1⟩
  · rw [kB_n c, kB_n c, kC_p]
    exact ⟨_, _, _, _, _, rfl, rfl, c2, q1, Or.inl rfl⟩
def rbVal (r : Int32) : Prop := r = -5 ∨ ∃ c : Nat, c ≤ 118 ∧ r = nI c
theorem rb_earl {α : Type} {r l : Int32} (hr : rbVal r) (hl : rbVal l) (A B : Option α) : ∃ e : Int32, f_X11_earlier r l = some e ∧ kB (r < 0) A (kB (l < 0) B (kB (r < l) B A)) = kB (e = 0) A B ∧ (r < 0 ↔ r = -5) ∧ (0 ≤ r ↔ ¬ r = -5) := by
  have n5 : ∀ c : Nat, c ≤ 118 → ¬ nI c = -5 := by
    intro c hc e
    have := nI_pos (n := c) (by omega)
    rw [e] at this
    exact this (by decide)
  unfold f_X11_earlier
  rcases hr with rfl | ⟨c, hc, rfl⟩
  · refine ⟨0, by rw [kB_p rfl], ?_, by decide, by decide⟩
    rw [kB_p (by decide), kB_p rfl]
  · have hn := nI_pos (n := c) (by omega)
    rw [kB_n (n5 c hc), kB_n hn]
    have x1 : (nI c < 0 ↔ nI c = -5) := ⟨fun q => absurd q hn, fun q => absurd q (n5 c hc)⟩
    have x2 : (0 ≤ nI c ↔ ¬ nI c = -5) := ⟨fun _ => n5 c hc, fun _ => nI_pos' (by omega)⟩
    rcases hl with rfl | ⟨d, hd, rfl⟩
    · refine ⟨1, by rw [kB_p rfl], ?_, x1, x2⟩
      rw [kB_p (by decide), kB_10]
    · rw [kB_n (n5 d hd), kB_n (nI_pos (by omega))]
      by_cases q : nI d ≤ nI c
      · refine ⟨0, by rw [kB_p q], ?_, x1, x2⟩
        rw [kB_n (Int32.not_lt.mpr q), kB_00]
      · refine ⟨1, by rw [kB_n q], ?_, x1, x2⟩
        rw [kB_p (Int32.not_le.mp q), kB_10]
end RBN
