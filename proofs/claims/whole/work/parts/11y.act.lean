/-! B: acts -/
def rbGt (SG : Nat → Int32) (SM SM0 : zMS) (r : Nat) : Prop := SG 20 = nI r ∧ SM.1 70 = nI r ∧ (∀ i : Nat, i < 20 → i < r → SG i = SM.2.1 71 i) ∧ (∀ k : Nat, k ≠ 70 → SM.1 k = SM0.1 k) ∧ (∀ k : Nat, k ≠ 71 → SM.2.1 k = SM0.2.1 k) ∧ SM.2.2 = SM0.2.2
def rbA (x : Option (Int32 × (Nat → Int32))) (y : Option (Int32 × zMS)) (SM0 : zMS) (n : Nat) : Prop := ∃ (v : Int32) (SG' : Nat → Int32) (SM' : zMS) (r : Nat), x = some (v, SG') ∧ y = some (v, SM') ∧ rbGt SG' SM' SM0 r ∧ r ≤ n
section RBAC
variable {SM0 SM : zMS} {SG : Nat → Int32} {k p v r n : Nat} {x : Int32}
theorem rb_begin (h : rbGt SG SM SM0 r) (hr : r ≤ 39) (pv : zPS) (b : Int32) : ∃ SG' SM', f_X4_begins pv SG b = some SG' ∧ f_X12_body SM b = some SM' ∧ rbGt SG' SM' SM0 (r + 1) := by
  obtain ⟨h1, h2, h3, h4, h5, h6⟩ := h
  have c20 : Int32.toNatClampNeg 20 = 20 := rfl
  unfold f_X4_begins f_X12_body f_X12_body_b19
  have j20 : ¬ ((20 : Int32) < 0 ∨ 21 ≤ 20) := by decide
  rw [c20, h1, h2]
  simp only [kO_p j20, kL_p]
  rw [nI_1, kB_n (nI_pos (by omega))]
  by_cases c : r < 20
  · rw [kB_n (show ¬ (20 : Int32) ≤ nI r from nI_ge (b := 20) c (by decide)), kB_n (show ¬ (20 : Int32) ≤ nI r from nI_ge (b := 20) c (by decide)), kO_p (nI_in (by omega) (by decide)), kO_p (nI_in c (by decide)), nI_clamp (by omega)]
    have e7 : ∀ f, (mSA SM 71 f).1 70 + 1 = nI (r + 1) := fun f => by rw [mSA_1, h2, nI_1]
    rw [e7]
    refine ⟨_, _, rfl, rfl, ?_, mSI_s _ _ _, ?_, ?_, ?_, h6⟩
    · rw [pk_un (by omega), pk_us]
    · intro i hi hlt
      show upd (upd SG 20 (nI (r + 1))) r b i = upd (SM.2.1 71) r b i
      by_cases q : i = r
      · subst q; rw [pk_us, pk_us]
      · rw [pk_un q, pk_un q, pk_un (by omega)]
        exact h3 i hi (by omega)
    · intro j hj
      exact (mSI_o _ _ hj).trans (h4 j hj)
    · intro j hj
      exact (mSA_o _ _ hj).trans (h5 j hj)
  · have l20 : (20 : Int32) ≤ nI r := nI_le (a := 20) (by omega) (by omega)
    rw [kB_p l20, kB_p l20]
    refine ⟨_, _, rfl, rfl, pk_us, mSI_s _ _ _, ?_, ?_, h5, h6⟩
    · intro i hi hlt
      show upd SG 20 (nI (r + 1)) i = SM.2.1 71 i
      rw [pk_un (by omega)]
      exact h3 i hi (by omega)
    · intro j hj
      exact (mSI_o _ _ hj).trans (h4 j hj)
theorem rb_ph (h : rbGt SG SM SM0 r) (hr : r ≤ 39) : rbA (f_X4_hears (nI k, nI p, nI v) SG x) (f_X12_parentHears SM (nI p) x) SM0 (r + 1) := by
  obtain ⟨SG', SM', b1, b2, b3⟩ := rb_begin h hr (nI k, nI p, nI v) 10
  have e : f_X4_hears (nI k, nI p, nI v) SG x = kC (f_X4_begins (nI k, nI p, nI v) SG 10) (fun S => some (x + nI p, S)) := by
    unfold f_X4_hears f_X4_begins
    have c20 : Int32.toNatClampNeg 20 = 20 := rfl
    have hc := h.1
    have j20 : ¬ ((20 : Int32) < 0 ∨ 21 ≤ 20) := by decide
    rw [c20, hc]
    simp only [kO_p j20, kL_p]
    rw [kB_n (nI_pos (by omega)), kB_n (nI_pos (by omega))]
    by_cases c : (20 : Int32) ≤ nI r
    · rw [kB_p c, kB_p c]; rfl
    · have c' : r < 20 := by
        rw [show (20 : Int32) = nI 20 from rfl, nI_leI (by omega) (by omega)] at c
        omega
      rw [kB_n c, kB_n c, kO_p (nI_in (by omega) (by decide)), kO_p (nI_in (by omega) (by decide))]; rfl
  unfold f_X12_parentHears
  rw [e, b1, b2, kC_p, kC_p, kL_p]
  exact ⟨_, _, _, _, rfl, rfl, b3, Nat.le_refl _⟩
theorem rb_vh (h : rbGt SG SM SM0 r) (hr : r ≤ 30) (hk : k < 7) (hp : p < 4) (e11 : SM0.2.1 11 p = nI k) (e12 : SM0.2.1 12 p = nI v) : rbA (f_v_hears (nI k, nI p, nI v) SG x) (f_X12_hearsAct SM (nI p) x) SM0 (r + 2) := by
  have a11 : SM.2.1 11 p = nI k := by rw [h.2.2.2.2.1 11 (by decide)]; exact e11
  unfold f_v_hears f_X12_hearsAct f_X12_hearsAct_b40
  dsimp only
  rw [kO_p (nI_in hp (by decide)), nI_clamp (by omega), a11]
  have plain : rbA (f_X4_hears (nI k, nI p, nI v) SG x) (kD (f_X12_parentHears SM (nI p) x) (fun r4 SM_5 => some (r4, SM_5))) SM0 (r + 2) := by
    obtain ⟨v1, SG', SM', r', q1, q2, q3, q4⟩ := rb_ph (k := k) (p := p) (v := v) (x := x) h (by omega)
    rw [q1, q2, kD_p]
    exact ⟨_, _, _, _, rfl, rfl, q3, by omega⟩
  have hc : k = 0 ∨ k = 1 ∨ k = 2 ∨ k = 3 ∨ k = 4 ∨ k = 5 ∨ k = 6 := by omega
  rcases hc with rfl | rfl | rfl | rfl | rfl | rfl | rfl
  · rw [kB_n (by decide), kB_n (by decide), kB_n (by decide), kB_n (by decide), kB_n (by decide), kB_n (by decide), kB_n (by decide), kB_n (by decide), kB_n (by decide), kB_n (by decide), kB_n (by decide)]
    exact plain
  · rw [kB_p (by decide), kB_n (by decide), kB_n (by decide), kB_n (by decide), kB_n (by decide), kB_n (by decide)]
    exact plain
  · rw [kB_n (by decide), kB_p (by decide), kB_p (by decide)]
    unfold f_X7_hears
    dsimp only
    rw [kO_p (by decide)]
    obtain ⟨S1, M1, b1, b2, b3⟩ := rb_begin h (by omega) (nI 2, nI p, nI v) 30
    obtain ⟨v1, SG', SM', r', q1, q2, q3, q4⟩ := rb_ph (k := 2) (p := p) (v := v) (x := x * 3) b3 (by omega)
    rw [b1, b2, kC_p, kC_p, kL_p, kL_p, q1, q2, kD_p, kD_p]
    exact ⟨_, _, _, _, rfl, rfl, q3, by omega⟩
  · rw [kB_n (by decide), kB_n (by decide), kB_p (by decide), kB_n (by decide), kB_p (by decide)]
    exact plain
  · rw [kB_n (by decide), kB_n (by decide), kB_n (by decide), kB_p (by decide), kB_n (by decide), kB_n (by decide), kB_p (by decide)]
    unfold f_X3_hears
    dsimp only
    rw [kO_p (by decide)]
    obtain ⟨S1, M1, b1, b2, b3⟩ := rb_begin h (by omega) (nI 4, nI p, nI v) 50
    obtain ⟨v1, SG', SM', r', q1, q2, q3, q4⟩ := rb_ph (k := 4) (p := p) (v := v) (x := x) b3 (by omega)
    rw [b1, b2, kC_p, kC_p, q1, q2, kD_p, kD_p, kL_p, kL_p]
    exact ⟨_, _, _, _, rfl, rfl, q3, by omega⟩
  · rw [kB_n (by decide), kB_n (by decide), kB_n (by decide), kB_n (by decide), kB_p (by decide), kB_n (by decide), kB_n (by decide), kB_n (by decide), kB_p (by decide)]
    unfold f_X7_hears
    dsimp only
    rw [kO_p (by decide)]
    obtain ⟨S1, M1, b1, b2, b3⟩ := rb_begin h (by omega) (nI 5, nI p, nI v) 30
    obtain ⟨v1, SG', SM', r', q1, q2, q3, q4⟩ := rb_ph (k := 5) (p := p) (v := v) (x := x * 3) b3 (by omega)
    rw [b1, b2, kC_p, kC_p, kL_p, kL_p, q1, q2, kD_p, kD_p]
    exact ⟨_, _, _, _, rfl, rfl, q3, by omega⟩
  · rw [kB_n (by decide), kB_n (by decide), kB_n (by decide), kB_n (by decide), kB_n (by decide), kB_p (by decide), kB_n (by decide), kB_n (by decide), kB_n (by decide), kB_n (by decide), kB_p (by decide)]
    unfold f_X9_hears
    dsimp only
    rw [kO_p (by decide)]
    obtain ⟨S1, M1, b1, b2, b3⟩ := rb_begin h (by omega) (nI 6, nI p, nI v) 71
    obtain ⟨v1, SG', SM', r', q1, q2, q3, q4⟩ := rb_ph (k := 6) (p := p) (v := v) (x := x) b3 (by omega)
    have a12 : SM'.2.1 12 p = nI v := by rw [q3.2.2.2.2.1 12 (by decide)]; exact e12
    rw [b1, b2, kC_p, kC_p, q1, q2, kD_p, kD_p, kO_p (rb_in2 hp (by decide)), a12, kL_p, kL_p]
    exact ⟨_, _, _, _, rfl, rfl, q3, by omega⟩
theorem rb_pg (h : rbGt SG SM SM0 r) (hr : r ≤ 29) (hk : k < 7) (hp : p < 4) (e11 : SM0.2.1 11 p = nI k) (e12 : SM0.2.1 12 p = nI v) : rbA (f_X4_gives (nI k, nI p, nI v) SG x) (f_X12_parentGives SM (nI p) x) SM0 (r + 3) := by
  unfold f_X4_gives f_X12_parentGives
  obtain ⟨S1, M1, b1, b2, b3⟩ := rb_begin h (by omega) (nI k, nI p, nI v) 11
  obtain ⟨v1, SG', SM', r', q1, q2, q3, q4⟩ := rb_vh (x := x) b3 (by omega) hk hp e11 e12
  have a12 : SM'.2.1 12 p = nI v := by rw [q3.2.2.2.2.1 12 (by decide)]; exact e12
  rw [b1, b2, kC_p, kC_p, q1, q2, kD_p, kD_p, kO_p (nI_in hp (by decide)), nI_clamp (by omega), a12, kL_p, kL_p]
  exact ⟨_, _, _, _, rfl, rfl, q3, by omega⟩
theorem rb_sg (h : rbGt SG SM SM0 r) (hr : r ≤ 28) (hk : k = 1 ∨ k = 4) (hp : p < 4) (e11 : SM0.2.1 11 p = nI k) (e12 : SM0.2.1 12 p = nI v) : rbA (f_X6_gives (nI k, nI p, nI v) SG x) (f_X12_softGives SM (nI p) x) SM0 (r + 4) := by
  unfold f_X6_gives f_X12_softGives
  dsimp only
  obtain ⟨S1, M1, b1, b2, b3⟩ := rb_begin h (by omega) (nI k, nI p, nI v) 20
  obtain ⟨v1, SG', SM', r', q1, q2, q3, q4⟩ := rb_pg (x := x) b3 (by omega) (by omega) hp e11 e12
  rw [kO_p (show nI k = 1 ∨ nI k = 4 by rcases hk with rfl | rfl <;> decide), b1, b2, kC_p, kC_p, q1, q2, kD_p, kD_p, kL_p, kL_p]
  exact ⟨_, _, _, _, rfl, rfl, q3, by omega⟩
theorem rb_vg (h : rbGt SG SM SM0 r) (hr : r ≤ 27) (hk : k < 7) (hp : p < 4) (e11 : SM0.2.1 11 p = nI k) (e12 : SM0.2.1 12 p = nI v) : rbA (f_v_gives (nI k, nI p, nI v) SG x) (f_X12_givesAct SM (nI p) x) SM0 (r + 5) := by
  have a11 : SM.2.1 11 p = nI k := by rw [h.2.2.2.2.1 11 (by decide)]; exact e11
  unfold f_v_gives f_X12_givesAct
  dsimp only
  rw [kO_p (nI_in hp (by decide)), nI_clamp (by omega), a11]
  have plain : rbA (f_X4_gives (nI k, nI p, nI v) SG x) (kD (f_X12_parentGives SM (nI p) x) (fun r4 SM_5 => some (r4, SM_5))) SM0 (r + 5) := by
    obtain ⟨v1, SG', SM', r', q1, q2, q3, q4⟩ := rb_pg (x := x) h (by omega) hk hp e11 e12
    rw [q1, q2, kD_p]
    exact ⟨_, _, _, _, rfl, rfl, q3, by omega⟩
  have hc : k = 0 ∨ k = 1 ∨ k = 2 ∨ k = 3 ∨ k = 4 ∨ k = 5 ∨ k = 6 := by omega
  rcases hc with rfl | rfl | rfl | rfl | rfl | rfl | rfl
  · rw [kB_n (by decide), kB_n (by decide), kB_n (by decide), kB_n (by decide), kB_n (by decide), kB_n (by decide), kB_n (by decide), kB_n (by decide), kB_n (by decide)]
    exact plain
  · rw [kB_p (by decide), kB_p (by decide)]
    obtain ⟨v1, SG', SM', r', q1, q2, q3, q4⟩ := rb_sg (x := x) h (by omega) (Or.inl rfl) hp e11 e12
    rw [q1, q2, kD_p]
    exact ⟨_, _, _, _, rfl, rfl, q3, by omega⟩
  · rw [kB_n (by decide), kB_p (by decide), kB_n (by decide), kB_n (by decide), kB_n (by decide)]
    exact plain
  · rw [kB_n (by decide), kB_n (by decide), kB_p (by decide), kB_n (by decide), kB_n (by decide), kB_n (by decide)]
    exact plain
  · rw [kB_n (by decide), kB_n (by decide), kB_n (by decide), kB_p (by decide), kB_n (by decide), kB_p (by decide)]
    unfold f_X3_gives
    dsimp only
    rw [kO_p (by decide)]
    obtain ⟨S1, M1, b1, b2, b3⟩ := rb_begin h (by omega) (nI 4, nI p, nI v) 51
    obtain ⟨v1, SG', SM', r', q1, q2, q3, q4⟩ := rb_sg (x := x + 1) b3 (by omega) (Or.inr rfl) hp e11 e12
    rw [b1, b2, kC_p, kC_p, kL_p, kL_p, q1, q2, kD_p, kD_p]
    exact ⟨_, _, _, _, rfl, rfl, q3, by omega⟩
  · rw [kB_n (by decide), kB_n (by decide), kB_n (by decide), kB_n (by decide), kB_p (by decide), kB_n (by decide), kB_n (by decide), kB_n (by decide)]
    exact plain
  · rw [kB_n (by decide), kB_n (by decide), kB_n (by decide), kB_n (by decide), kB_n (by decide), kB_p (by decide), kB_n (by decide), kB_n (by decide), kB_p (by decide)]
    unfold f_X9_gives
    dsimp only
    rw [kO_p (by decide)]
    obtain ⟨S1, M1, b1, b2, b3⟩ := rb_begin h (by omega) (nI 6, nI p, nI v) 70
    obtain ⟨v1, S2, M2, r2, q1, q2, q3, q4⟩ := rb_pg (x := x) b3 (by omega) (by omega) hp e11 e12
    obtain ⟨v2, S3, M3, r3, t1, t2, t3, t4⟩ := rb_ph (k := 6) (p := p) (v := v) (x := 2) q3 (by omega)
    rw [b1, b2, kC_p, kC_p, q1, q2, kD_p, kD_p, t1, t2, kD_p, kD_p, kL_p, kL_p]
    exact ⟨_, _, _, _, rfl, rfl, t3, by omega⟩
theorem rb_pt (h : rbGt SG SM SM0 r) (hr : r ≤ 26) (hk : k < 7) (hp : p < 4) (e11 : SM0.2.1 11 p = nI k) (e12 : SM0.2.1 12 p = nI v) : rbA (f_X4_tells (nI k, nI p, nI v) SG x) (f_X12_parentTells SM (nI p) x) SM0 (r + 6) := by
  unfold f_X4_tells f_X12_parentTells
  obtain ⟨S1, M1, b1, b2, b3⟩ := rb_begin h (by omega) (nI k, nI p, nI v) 12
  obtain ⟨v1, SG', SM', r', q1, q2, q3, q4⟩ := rb_vg (x := x) b3 (by omega) hk hp e11 e12
  rw [b1, b2, kC_p, kC_p, q1, q2, kD_p, kD_p, kL_p, kL_p]
  exact ⟨_, _, _, _, rfl, rfl, q3, by omega⟩
theorem rb_vt (h : rbGt SG SM SM0 r) (hr : r ≤ 10) (hk : k < 7) (hp : p < 4) (e11 : SM0.2.1 11 p = nI k) (e12 : SM0.2.1 12 p = nI v) : rbA (f_v_tells (nI k, nI p, nI v) SG x) (f_X12_tellsAct SM (nI p) x) SM0 (r + 12) := by
  have a11 : SM.2.1 11 p = nI k := by rw [h.2.2.2.2.1 11 (by decide)]; exact e11
  unfold f_v_tells f_X12_tellsAct f_X12_tellsAct_b36
  dsimp only
  rw [kO_p (nI_in hp (by decide)), nI_clamp (by omega), a11]
  have plain : rbA (f_X4_tells (nI k, nI p, nI v) SG x) (kD (f_X12_parentTells SM (nI p) x) (fun r4 SM_5 => some (r4, SM_5))) SM0 (r + 12) := by
    obtain ⟨v1, SG', SM', r', q1, q2, q3, q4⟩ := rb_pt (x := x) h (by omega) hk hp e11 e12
    rw [q1, q2, kD_p]
    exact ⟨_, _, _, _, rfl, rfl, q3, by omega⟩
  have tired : k = 3 ∨ k = 6 → rbA (f_X8_tells (nI k, nI p, nI v) SG x) (kC (f_X12_body SM 40) (fun SM_18 => kD (f_X12_parentTells SM_18 (nI p) x) (fun r20 SM_21 => kD (f_X12_givesAct SM_21 (nI p) 1) (fun r23 SM_24 => kL (r20 + r23) (fun v26 => some (v26, SM_24)))))) SM0 (r + 12) := by
    intro hk2
    unfold f_X8_tells
    dsimp only
    rw [kO_p (show nI k = 3 ∨ nI k = 6 by rcases hk2 with rfl | rfl <;> decide)]
    obtain ⟨S1, M1, b1, b2, b3⟩ := rb_begin h (by omega) (nI k, nI p, nI v) 40
    obtain ⟨v1, S2, M2, r2, q1, q2, q3, q4⟩ := rb_pt (x := x) b3 (by omega) hk hp e11 e12
    obtain ⟨v2, S3, M3, r3, t1, t2, t3, t4⟩ := rb_vg (x := 1) q3 (by omega) hk hp e11 e12
    rw [b1, b2, kC_p, kC_p, q1, q2, kD_p, kD_p, t1, t2, kD_p, kD_p, kL_p, kL_p]
    exact ⟨_, _, _, _, rfl, rfl, t3, by omega⟩
  have hc : k = 0 ∨ k = 1 ∨ k = 2 ∨ k = 3 ∨ k = 4 ∨ k = 5 ∨ k = 6 := by omega
  rcases hc with rfl | rfl | rfl | rfl | rfl | rfl | rfl
  · rw [kB_n (by decide), kB_n (by decide), kB_n (by decide), kB_n (by decide), kB_n (by decide), kB_n (by decide), kB_n (by decide), kB_n (by decide), kB_n (by decide), kB_n (by decide)]
    exact plain
  · rw [kB_p (by decide), kB_n (by decide), kB_n (by decide), kB_n (by decide), kB_n (by decide)]
    exact plain
  · rw [kB_n (by decide), kB_p (by decide), kB_n (by decide), kB_n (by decide), kB_n (by decide), kB_n (by decide)]
    exact plain
  · rw [kB_n (by decide), kB_n (by decide), kB_p (by decide), kB_p (by decide)]
    exact tired (Or.inl rfl)
  · rw [kB_n (by decide), kB_n (by decide), kB_n (by decide), kB_p (by decide), kB_n (by decide), kB_p (by decide)]
    exact plain
  · rw [kB_n (by decide), kB_n (by decide), kB_n (by decide), kB_n (by decide), kB_p (by decide), kB_n (by decide), kB_n (by decide), kB_p (by decide)]
    unfold f_X0_tells
    dsimp only
    rw [kO_p (by decide)]
    obtain ⟨S1, M1, b1, b2, b3⟩ := rb_begin h (by omega) (nI 5, nI p, nI v) 60
    obtain ⟨v1, SG', SM', r', q1, q2, q3, q4⟩ := rb_pt (x := x - nI p) b3 (by omega) (by omega) hp e11 e12
    rw [b1, b2, kC_p, kC_p, kL_p, kL_p, q1, q2, kD_p, kD_p]
    exact ⟨_, _, _, _, rfl, rfl, q3, by omega⟩
  · rw [kB_n (by decide), kB_n (by decide), kB_n (by decide), kB_n (by decide), kB_n (by decide), kB_p (by decide), kB_n (by decide), kB_n (by decide), kB_n (by decide), kB_p (by decide)]
    exact tired (Or.inr rfl)
end RBAC
section RBAD
variable {SX SR : zRS} {SN SK S : zHS} {ST : zTS} {SM : zMS} {SV : Nat → Nat → Int64} {SG SY SZ : Nat → Int32} {SD : List (Nat × zPS)} {SE : List ((Nat → Nat) × zQS)}
theorem rb_act (h : rbAll SX SN SK SR SV SG SD SE SM) (x1 x2 x3 : Int32) : ∃ r SG' SM', f_X11_act SX SN SK ST S SR SV SG SY SZ SD SE x1 x2 x3 = some (r, SG') ∧ f_X12_act SM x1 x2 x3 = some (r, SM') ∧ rbAll SX SN SK SR SV SG' SD SE SM' := by
  have h0 := h
  obtain ⟨nT, nP, L, HS, a, b, c, d, e, f, g, l⟩ := h
  have hP := a.1.2.1.2.2
  have c20 : Int32.toNatClampNeg 20 = 20 := rfl
  have g0 : rbGt (upd SG 20 0) (mSI SM 70 0) SM 0 := ⟨pk_us, mSI_s _ _ _, fun i _ hi => by omega, fun k hk => mSI_o _ _ hk, fun _ _ => rfl, rfl⟩
  have fin : ∀ (SG' : Nat → Int32) (SM' : zMS) (r : Nat), r ≤ 12 → rbGt SG' SM' SM r → rbAll SX SN SK SR SV SG' SD SE SM' := by
    intro SG' SM' r hr ⟨q1, q2, q3, q4, q5, q6⟩
    refine rbAll.o (SM := SM) (SR := SR) (SX := SX) (SV := SV) (SG := SG) (fun k hk => q4 k (by intro e; subst e; exact hk (by decide))) (fun k hk => q5 k (by intro e; subst e; exact hk (by decide))) rfl rfl (fun t => ?_) (fun _ => ⟨r, by omega, q1, q2, q3⟩) (fun t => ?_) h0
    · unfold rbTx
      rw [q4 16 (by decide), q5 19 (by decide)]
      exact t
    · unfold rbTp
      rw [q5 72 (by decide), q5 73 (by decide), q6]
      exact t
  have base : ∃ (r : Int32) (SG' : Nat → Int32) (SM' : zMS), some ((0 : Int32), upd SG 20 0) = some (r, SG') ∧ some ((0 : Int32), mSI SM 70 0) = some (r, SM') ∧ rbAll SX SN SK SR SV SG' SD SE SM' := ⟨_, _, _, rfl, rfl, fin _ _ 0 (by omega) g0⟩
  have hk1 : rbK SN (mSI SM 70 0) SD nT nP L := rbK.e (SM := SM) rfl rfl rfl rfl (fun _ _ => rfl) a.1
  unfold f_X11_act f_X12_act
  rw [c20, kO_p (by decide), kL_p, kL_p]
  rcases rb_pc hk1 x1 with ⟨e1, e2⟩ | ⟨p, w, k, v, hp, rfl, e1, e3, e4, k7, v9, e5, e6, e2⟩
  · rw [e1, kC_p, kN_p0, e2, kC_p, kB_00]; exact base
  · have e5' : SM.2.1 11 p = nI k := e5
    have e6' : SM.2.1 12 p = nI v := e6
    rw [e1, kC_p, kN_p1, e2, kC_p, kB_10, e4, kC_p, kC_p, kC_p]
    by_cases y0 : x2 = 0
    · subst y0
      rw [kB_00, rb_in1 (by decide) (by decide), kC_p, kB_10, kB_00]
      obtain ⟨v1, SG', SM', r', q1, q2, q3, q4⟩ := rb_vh (x := x3) g0 (by omega) k7 (by omega) e5' e6'
      rw [q1, q2, kD_p, kD_p]
      exact ⟨_, _, _, rfl, rfl, fin _ _ r' (by omega) q3⟩
    · rw [kB_n y0]
      by_cases y1 : x2 = 1
      · subst y1
        rw [kB_p rfl, rb_in1 (by decide) (by decide), kC_p, kB_10, kB_10, kB_p rfl]
        obtain ⟨v1, SG', SM', r', q1, q2, q3, q4⟩ := rb_vg (x := x3) g0 (by omega) k7 (by omega) e5' e6'
        rw [q1, q2, kD_p, kD_p]
        exact ⟨_, _, _, rfl, rfl, fin _ _ r' (by omega) q3⟩
      · rw [kB_n y1]
        by_cases y2 : x2 = 2
        · subst y2
          rw [kB_p rfl, rb_in1 (by decide) (by decide), kC_p, kB_10, kB_n y0, kB_n y1]
          obtain ⟨v1, SG', SM', r', q1, q2, q3, q4⟩ := rb_vt (x := x3) g0 (by omega) k7 (by omega) e5' e6'
          rw [q1, q2, kD_p, kD_p]
          exact ⟨_, _, _, rfl, rfl, fin _ _ r' (by omega) q3⟩
        · have hin : f_X12_in (mSI SM 70 0) x2 0 2 = some 0 := by
            by_cases c1 : x2 < 0
            · exact rb_in0 (Or.inl c1)
            · refine rb_in0 (Or.inr (fun q => ?_))
              obtain ⟨y, hy, rfl⟩ := nI_of2 (M := 2) (n := 2) rfl c1 q
              have : y = 0 ∨ y = 1 ∨ y = 2 := by omega
              rcases this with rfl | rfl | rfl
              · exact y0 rfl
              · exact y1 rfl
              · exact y2 rfl
          rw [kB_n y2, hin, kC_p, kB_00]
          exact base
end RBAD
