/-! B: the image, taken and put back -/
theorem rb_image_l234 (N : Nat) : ∀ (j x n : Nat) (A : zMS), x + j = 12 → j < n → (∀ i : Nat, i < x → A.2.1 68 i = A.2.1 49 i) → ∃ B : zMS, f_X12_image_l234 N n A (nI x) = some (B.1 1, B) ∧ B.1 = A.1 ∧ (∀ k : Nat, k ∉ ([68] : List Nat) → B.2.1 k = A.2.1 k) ∧ B.2.2 = A.2.2 ∧ ∀ i : Nat, i < 12 → B.2.1 68 i = A.2.1 49 i
  | j, x, 0, A, _, h, _ => by omega
  | 0, x, n + 1, A, hx, _, hp => by
    have hx : x = 12 := by omega
    subst hx
    refine ⟨A, ?_, rfl, fun _ _ => rfl, rfl, hp⟩
    rw [s_X12_image_l234]
    show kB _ _ _ = _
    rw [kB_p (show (12 : Int32) ≤ nI 12 by decide)]
  | j + 1, x, n + 1, A, hx, hn, hp => by
    let A1 : zMS := mSA A 68 (upd (A.2.1 68) x (A.2.1 49 x))
    have f68 : A1.2.1 68 = upd (A.2.1 68) x (A.2.1 49 x) := rfl
    have f49 : A1.2.1 49 = A.2.1 49 := rfl
    obtain ⟨B, b1, b2, b3, b4, b5⟩ := rb_image_l234 N j (x + 1) n A1 (by omega) (by omega) (by
      intro i hi
      rw [f68, f49]
      by_cases c : i = x
      · subst c; rw [pk_us]
      · rw [pk_un c]; exact hp i (by omega))
    refine ⟨B, ?_, b2, fun k hk => ?_, b4, fun i hi => b5 i hi⟩
    · rw [s_X12_image_l234]
      show kB _ _ _ = _
      rw [kB_n (show ¬ (12 : Int32) ≤ nI x from nI_ge (b := 12) (by omega) (by omega))]
      simp only [kL_p]
      rw [kO_p (nI_in (show x < 12 by omega) (by decide)), kO_p (nI_in (show x < 12 by omega) (by decide)), nI_clamp (by omega), nI_1]
      exact b1
    · refine (b3 k hk).trans ?_
      simp only [List.mem_cons, List.not_mem_nil, or_false, not_or] at hk
      exact mSA_o _ _ hk
theorem rb_image_l208 (N : Nat) : ∀ (j x n : Nat) (A : zMS), x + j = 8 → j < n → (∀ i : Nat, i < x → A.2.1 69 i = A.2.1 47 i) → (∀ i : Nat, i < 8 → A.2.1 47 i = 0 ∨ A.2.1 47 i = 1) → ∃ B : zMS, f_X12_image_l208 N n A (nI x) = f_X12_image_l234 N N B 0 ∧ B.1 = A.1 ∧ (∀ k : Nat, k ∉ ([69] : List Nat) → B.2.1 k = A.2.1 k) ∧ B.2.2 = A.2.2 ∧ ∀ i : Nat, i < 8 → B.2.1 69 i = A.2.1 47 i
  | j, x, 0, A, _, h, _, _ => by omega
  | 0, x, n + 1, A, hx, _, hp, hb => by
    have hx : x = 8 := by omega
    subst hx
    refine ⟨A, ?_, rfl, fun _ _ => rfl, rfl, hp⟩
    rw [s_X12_image_l208]
    show kB _ _ _ = _
    rw [kB_p (show (8 : Int32) ≤ nI 8 by decide)]
  | j + 1, x, n + 1, A, hx, hn, hp, hb => by
    let A1 : zMS := mSA A 69 (upd (A.2.1 69) x (A.2.1 47 x))
    have f69 : A1.2.1 69 = upd (A.2.1 69) x (A.2.1 47 x) := rfl
    have f47 : A1.2.1 47 = A.2.1 47 := rfl
    obtain ⟨B, b1, b2, b3, b4, b5⟩ := rb_image_l208 N j (x + 1) n A1 (by omega) (by omega) (by
      intro i hi
      rw [f69, f47]
      by_cases c : i = x
      · subst c; rw [pk_us]
      · rw [pk_un c]; exact hp i (by omega)) hb
    refine ⟨B, ?_, b2, fun k hk => ?_, b4, fun i hi => b5 i hi⟩
    · rw [s_X12_image_l208]
      show kB _ _ _ = _
      rw [kB_n (show ¬ (8 : Int32) ≤ nI x from nI_ge (b := 8) (by omega) (by omega))]
      simp only [kL_p]
      rw [kO_p (nI_in (show x < 8 by omega) (by decide)), kO_p (nI_in (show x < 8 by omega) (by decide)), nI_clamp (by omega), kO_p (hb x (by omega)), nI_1]
      exact b1
    · refine (b3 k hk).trans ?_
      simp only [List.mem_cons, List.not_mem_nil, or_false, not_or] at hk
      exact mSA_o _ _ hk
theorem rb_image_l182 (N : Nat) : ∀ (j x n : Nat) (A : zMS), x + j = 16 → j < n → (∀ i : Nat, i < x → A.2.1 67 i = A.2.1 13 i) → ∃ B : zMS, f_X12_image_l182 N n A (nI x) = f_X12_image_l208 N N B 0 ∧ B.1 = A.1 ∧ (∀ k : Nat, k ∉ ([67] : List Nat) → B.2.1 k = A.2.1 k) ∧ B.2.2 = A.2.2 ∧ ∀ i : Nat, i < 16 → B.2.1 67 i = A.2.1 13 i
  | j, x, 0, A, _, h, _ => by omega
  | 0, x, n + 1, A, hx, _, hp => by
    have hx : x = 16 := by omega
    subst hx
    refine ⟨A, ?_, rfl, fun _ _ => rfl, rfl, hp⟩
    rw [s_X12_image_l182]
    show kB _ _ _ = _
    rw [kB_p (show (16 : Int32) ≤ nI 16 by decide)]
  | j + 1, x, n + 1, A, hx, hn, hp => by
    let A1 : zMS := mSA A 67 (upd (A.2.1 67) x (A.2.1 13 x))
    have f67 : A1.2.1 67 = upd (A.2.1 67) x (A.2.1 13 x) := rfl
    have f13 : A1.2.1 13 = A.2.1 13 := rfl
    obtain ⟨B, b1, b2, b3, b4, b5⟩ := rb_image_l182 N j (x + 1) n A1 (by omega) (by omega) (by
      intro i hi
      rw [f67, f13]
      by_cases c : i = x
      · subst c; rw [pk_us]
      · rw [pk_un c]; exact hp i (by omega))
    refine ⟨B, ?_, b2, fun k hk => ?_, b4, fun i hi => b5 i hi⟩
    · rw [s_X12_image_l182]
      show kB _ _ _ = _
      rw [kB_n (show ¬ (16 : Int32) ≤ nI x from nI_ge (b := 16) (by omega) (by omega))]
      simp only [kL_p]
      rw [kO_p (nI_in (show x < 16 by omega) (by decide)), kO_p (nI_in (show x < 16 by omega) (by decide)), nI_clamp (by omega), nI_1]
      exact b1
    · refine (b3 k hk).trans ?_
      simp only [List.mem_cons, List.not_mem_nil, or_false, not_or] at hk
      exact mSA_o _ _ hk
theorem rb_image_l145 (N : Nat) : ∀ (j x n : Nat) (A : zMS), x + j = 4 → j < n → (∀ i : Nat, i < x → A.2.1 65 i = A.2.1 11 i ∧ A.2.1 66 i = A.2.1 12 i) → ∃ B : zMS, f_X12_image_l145 N n A (nI x) = f_X12_image_l182 N N B 0 ∧ B.1 = A.1 ∧ (∀ k : Nat, k ∉ ([65, 66] : List Nat) → B.2.1 k = A.2.1 k) ∧ B.2.2 = A.2.2 ∧ ∀ i : Nat, i < 4 → B.2.1 65 i = A.2.1 11 i ∧ B.2.1 66 i = A.2.1 12 i
  | j, x, 0, A, _, h, _ => by omega
  | 0, x, n + 1, A, hx, _, hp => by
    have hx : x = 4 := by omega
    subst hx
    refine ⟨A, ?_, rfl, fun _ _ => rfl, rfl, hp⟩
    rw [s_X12_image_l145]
    show kB _ _ _ = _
    rw [kB_p (show (4 : Int32) ≤ nI 4 by decide)]
  | j + 1, x, n + 1, A, hx, hn, hp => by
    let A1 : zMS := mSA A 65 (upd (A.2.1 65) x (A.2.1 11 x))
    let A2 : zMS := mSA A1 66 (upd (A1.2.1 66) x (A1.2.1 12 x))
    have f65 : A2.2.1 65 = upd (A.2.1 65) x (A.2.1 11 x) := rfl
    have f11 : A2.2.1 11 = A.2.1 11 := rfl
    have f66 : A2.2.1 66 = upd (A.2.1 66) x (A.2.1 12 x) := rfl
    have f12 : A2.2.1 12 = A.2.1 12 := rfl
    obtain ⟨B, b1, b2, b3, b4, b5⟩ := rb_image_l145 N j (x + 1) n A2 (by omega) (by omega) (by
      intro i hi
      rw [f65, f11, f66, f12]
      by_cases c : i = x
      · subst c; rw [pk_us, pk_us]; exact ⟨rfl, rfl⟩
      · rw [pk_un c, pk_un c]; exact hp i (by omega))
    refine ⟨B, ?_, b2, fun k hk => ?_, b4, fun i hi => b5 i hi⟩
    · rw [s_X12_image_l145]
      show kB _ _ _ = _
      rw [kB_n (show ¬ (4 : Int32) ≤ nI x from nI_ge (b := 4) (by omega) (by omega))]
      simp only [kL_p]
      rw [kO_p (nI_in (show x < 4 by omega) (by decide)), kO_p (nI_in (show x < 4 by omega) (by decide)), kO_p (nI_in (show x < 4 by omega) (by decide)), kO_p (nI_in (show x < 4 by omega) (by decide)), nI_clamp (by omega), nI_1]
      exact b1
    · refine (b3 k hk).trans ?_
      simp only [List.mem_cons, List.not_mem_nil, or_false, not_or] at hk
      exact (mSA_o _ _ hk.2).trans (mSA_o _ _ hk.1)
theorem rb_image_l95 (N : Nat) : ∀ (j x n : Nat) (A : zMS), x + j = 7 → j < n → (∀ i : Nat, i < x → A.2.1 62 i = A.2.1 8 i ∧ A.2.1 63 i = A.2.1 9 i ∧ A.2.1 64 i = A.2.1 10 i) → ∃ B : zMS, f_X12_image_l95 N n A (nI x) = f_X12_image_l145 N N B 0 ∧ B.1 = A.1 ∧ (∀ k : Nat, k ∉ ([62, 63, 64] : List Nat) → B.2.1 k = A.2.1 k) ∧ B.2.2 = A.2.2 ∧ ∀ i : Nat, i < 7 → B.2.1 62 i = A.2.1 8 i ∧ B.2.1 63 i = A.2.1 9 i ∧ B.2.1 64 i = A.2.1 10 i
  | j, x, 0, A, _, h, _ => by omega
  | 0, x, n + 1, A, hx, _, hp => by
    have hx : x = 7 := by omega
    subst hx
    refine ⟨A, ?_, rfl, fun _ _ => rfl, rfl, hp⟩
    rw [s_X12_image_l95]
    show kB _ _ _ = _
    rw [kB_p (show (7 : Int32) ≤ nI 7 by decide)]
  | j + 1, x, n + 1, A, hx, hn, hp => by
    let A1 : zMS := mSA A 62 (upd (A.2.1 62) x (A.2.1 8 x))
    let A2 : zMS := mSA A1 63 (upd (A1.2.1 63) x (A1.2.1 9 x))
    let A3 : zMS := mSA A2 64 (upd (A2.2.1 64) x (A2.2.1 10 x))
    have f62 : A3.2.1 62 = upd (A.2.1 62) x (A.2.1 8 x) := rfl
    have f8 : A3.2.1 8 = A.2.1 8 := rfl
    have f63 : A3.2.1 63 = upd (A.2.1 63) x (A.2.1 9 x) := rfl
    have f9 : A3.2.1 9 = A.2.1 9 := rfl
    have f64 : A3.2.1 64 = upd (A.2.1 64) x (A.2.1 10 x) := rfl
    have f10 : A3.2.1 10 = A.2.1 10 := rfl
    obtain ⟨B, b1, b2, b3, b4, b5⟩ := rb_image_l95 N j (x + 1) n A3 (by omega) (by omega) (by
      intro i hi
      rw [f62, f8, f63, f9, f64, f10]
      by_cases c : i = x
      · subst c; rw [pk_us, pk_us, pk_us]; exact ⟨rfl, rfl, rfl⟩
      · rw [pk_un c, pk_un c, pk_un c]; exact hp i (by omega))
    refine ⟨B, ?_, b2, fun k hk => ?_, b4, fun i hi => b5 i hi⟩
    · rw [s_X12_image_l95]
      show kB _ _ _ = _
      rw [kB_n (show ¬ (7 : Int32) ≤ nI x from nI_ge (b := 7) (by omega) (by omega))]
      simp only [kL_p]
      rw [kO_p (nI_in (show x < 7 by omega) (by decide)), kO_p (nI_in (show x < 7 by omega) (by decide)), kO_p (nI_in (show x < 7 by omega) (by decide)), kO_p (nI_in (show x < 7 by omega) (by decide)), kO_p (nI_in (show x < 7 by omega) (by decide)), kO_p (nI_in (show x < 7 by omega) (by decide)), nI_clamp (by omega), nI_1]
      exact b1
    · refine (b3 k hk).trans ?_
      simp only [List.mem_cons, List.not_mem_nil, or_false, not_or] at hk
      exact (mSA_o _ _ hk.2.2).trans ((mSA_o _ _ hk.2.1).trans (mSA_o _ _ hk.1))
theorem rb_undo_l239 (N : Nat) : ∀ (j x n : Nat) (A : zMS), x + j = 12 → j < n → (∀ i : Nat, i < x → A.2.1 49 i = A.2.1 68 i) → ∃ B : zMS, f_X12_undo_l239 N n A (nI x) = some (B.1 1, B) ∧ B.1 = A.1 ∧ (∀ k : Nat, k ∉ ([49] : List Nat) → B.2.1 k = A.2.1 k) ∧ B.2.2 = A.2.2 ∧ ∀ i : Nat, i < 12 → B.2.1 49 i = A.2.1 68 i
  | j, x, 0, A, _, h, _ => by omega
  | 0, x, n + 1, A, hx, _, hp => by
    have hx : x = 12 := by omega
    subst hx
    refine ⟨A, ?_, rfl, fun _ _ => rfl, rfl, hp⟩
    rw [s_X12_undo_l239]
    show kB _ _ _ = _
    rw [kB_p (show (12 : Int32) ≤ nI 12 by decide)]
  | j + 1, x, n + 1, A, hx, hn, hp => by
    let A1 : zMS := mSA A 49 (upd (A.2.1 49) x (A.2.1 68 x))
    have f49 : A1.2.1 49 = upd (A.2.1 49) x (A.2.1 68 x) := rfl
    have f68 : A1.2.1 68 = A.2.1 68 := rfl
    obtain ⟨B, b1, b2, b3, b4, b5⟩ := rb_undo_l239 N j (x + 1) n A1 (by omega) (by omega) (by
      intro i hi
      rw [f49, f68]
      by_cases c : i = x
      · subst c; rw [pk_us]
      · rw [pk_un c]; exact hp i (by omega))
    refine ⟨B, ?_, b2, fun k hk => ?_, b4, fun i hi => b5 i hi⟩
    · rw [s_X12_undo_l239]
      show kB _ _ _ = _
      rw [kB_n (show ¬ (12 : Int32) ≤ nI x from nI_ge (b := 12) (by omega) (by omega))]
      simp only [kL_p]
      rw [kO_p (nI_in (show x < 12 by omega) (by decide)), kO_p (nI_in (show x < 12 by omega) (by decide)), nI_clamp (by omega), nI_1]
      exact b1
    · refine (b3 k hk).trans ?_
      simp only [List.mem_cons, List.not_mem_nil, or_false, not_or] at hk
      exact mSA_o _ _ hk
theorem rb_undo_l213 (N : Nat) : ∀ (j x n : Nat) (A : zMS), x + j = 8 → j < n → (∀ i : Nat, i < x → A.2.1 47 i = A.2.1 69 i) → (∀ i : Nat, i < 8 → A.2.1 69 i = 0 ∨ A.2.1 69 i = 1) → ∃ B : zMS, f_X12_undo_l213 N n A (nI x) = f_X12_undo_l239 N N B 0 ∧ B.1 = A.1 ∧ (∀ k : Nat, k ∉ ([47] : List Nat) → B.2.1 k = A.2.1 k) ∧ B.2.2 = A.2.2 ∧ ∀ i : Nat, i < 8 → B.2.1 47 i = A.2.1 69 i
  | j, x, 0, A, _, h, _, _ => by omega
  | 0, x, n + 1, A, hx, _, hp, hb => by
    have hx : x = 8 := by omega
    subst hx
    refine ⟨A, ?_, rfl, fun _ _ => rfl, rfl, hp⟩
    rw [s_X12_undo_l213]
    show kB _ _ _ = _
    rw [kB_p (show (8 : Int32) ≤ nI 8 by decide)]
  | j + 1, x, n + 1, A, hx, hn, hp, hb => by
    let A1 : zMS := mSA A 47 (upd (A.2.1 47) x (A.2.1 69 x))
    have f47 : A1.2.1 47 = upd (A.2.1 47) x (A.2.1 69 x) := rfl
    have f69 : A1.2.1 69 = A.2.1 69 := rfl
    obtain ⟨B, b1, b2, b3, b4, b5⟩ := rb_undo_l213 N j (x + 1) n A1 (by omega) (by omega) (by
      intro i hi
      rw [f47, f69]
      by_cases c : i = x
      · subst c; rw [pk_us]
      · rw [pk_un c]; exact hp i (by omega)) hb
    refine ⟨B, ?_, b2, fun k hk => ?_, b4, fun i hi => b5 i hi⟩
    · rw [s_X12_undo_l213]
      show kB _ _ _ = _
      rw [kB_n (show ¬ (8 : Int32) ≤ nI x from nI_ge (b := 8) (by omega) (by omega))]
      simp only [kL_p]
      rw [kO_p (nI_in (show x < 8 by omega) (by decide)), kO_p (nI_in (show x < 8 by omega) (by decide)), nI_clamp (by omega), kO_p (hb x (by omega)), nI_1]
      exact b1
    · refine (b3 k hk).trans ?_
      simp only [List.mem_cons, List.not_mem_nil, or_false, not_or] at hk
      exact mSA_o _ _ hk
theorem rb_undo_l187 (N : Nat) : ∀ (j x n : Nat) (A : zMS), x + j = 16 → j < n → (∀ i : Nat, i < x → A.2.1 13 i = A.2.1 67 i) → ∃ B : zMS, f_X12_undo_l187 N n A (nI x) = f_X12_undo_l213 N N B 0 ∧ B.1 = A.1 ∧ (∀ k : Nat, k ∉ ([13] : List Nat) → B.2.1 k = A.2.1 k) ∧ B.2.2 = A.2.2 ∧ ∀ i : Nat, i < 16 → B.2.1 13 i = A.2.1 67 i
  | j, x, 0, A, _, h, _ => by omega
  | 0, x, n + 1, A, hx, _, hp => by
    have hx : x = 16 := by omega
    subst hx
    refine ⟨A, ?_, rfl, fun _ _ => rfl, rfl, hp⟩
    rw [s_X12_undo_l187]
    show kB _ _ _ = _
    rw [kB_p (show (16 : Int32) ≤ nI 16 by decide)]
  | j + 1, x, n + 1, A, hx, hn, hp => by
    let A1 : zMS := mSA A 13 (upd (A.2.1 13) x (A.2.1 67 x))
    have f13 : A1.2.1 13 = upd (A.2.1 13) x (A.2.1 67 x) := rfl
    have f67 : A1.2.1 67 = A.2.1 67 := rfl
    obtain ⟨B, b1, b2, b3, b4, b5⟩ := rb_undo_l187 N j (x + 1) n A1 (by omega) (by omega) (by
      intro i hi
      rw [f13, f67]
      by_cases c : i = x
      · subst c; rw [pk_us]
      · rw [pk_un c]; exact hp i (by omega))
    refine ⟨B, ?_, b2, fun k hk => ?_, b4, fun i hi => b5 i hi⟩
    · rw [s_X12_undo_l187]
      show kB _ _ _ = _
      rw [kB_n (show ¬ (16 : Int32) ≤ nI x from nI_ge (b := 16) (by omega) (by omega))]
      simp only [kL_p]
      rw [kO_p (nI_in (show x < 16 by omega) (by decide)), kO_p (nI_in (show x < 16 by omega) (by decide)), nI_clamp (by omega), nI_1]
      exact b1
    · refine (b3 k hk).trans ?_
      simp only [List.mem_cons, List.not_mem_nil, or_false, not_or] at hk
      exact mSA_o _ _ hk
theorem rb_undo_l150 (N : Nat) : ∀ (j x n : Nat) (A : zMS), x + j = 4 → j < n → (∀ i : Nat, i < x → A.2.1 11 i = A.2.1 65 i ∧ A.2.1 12 i = A.2.1 66 i) → ∃ B : zMS, f_X12_undo_l150 N n A (nI x) = f_X12_undo_l187 N N B 0 ∧ B.1 = A.1 ∧ (∀ k : Nat, k ∉ ([11, 12] : List Nat) → B.2.1 k = A.2.1 k) ∧ B.2.2 = A.2.2 ∧ ∀ i : Nat, i < 4 → B.2.1 11 i = A.2.1 65 i ∧ B.2.1 12 i = A.2.1 66 i
  | j, x, 0, A, _, h, _ => by omega
  | 0, x, n + 1, A, hx, _, hp => by
    have hx : x = 4 := by omega
    subst hx
    refine ⟨A, ?_, rfl, fun _ _ => rfl, rfl, hp⟩
    rw [s_X12_undo_l150]
    show kB _ _ _ = _
    rw [kB_p (show (4 : Int32) ≤ nI 4 by decide)]
  | j + 1, x, n + 1, A, hx, hn, hp => by
    let A1 : zMS := mSA A 11 (upd (A.2.1 11) x (A.2.1 65 x))
    let A2 : zMS := mSA A1 12 (upd (A1.2.1 12) x (A1.2.1 66 x))
    have f11 : A2.2.1 11 = upd (A.2.1 11) x (A.2.1 65 x) := rfl
    have f65 : A2.2.1 65 = A.2.1 65 := rfl
    have f12 : A2.2.1 12 = upd (A.2.1 12) x (A.2.1 66 x) := rfl
    have f66 : A2.2.1 66 = A.2.1 66 := rfl
    obtain ⟨B, b1, b2, b3, b4, b5⟩ := rb_undo_l150 N j (x + 1) n A2 (by omega) (by omega) (by
      intro i hi
      rw [f11, f65, f12, f66]
      by_cases c : i = x
      · subst c; rw [pk_us, pk_us]; exact ⟨rfl, rfl⟩
      · rw [pk_un c, pk_un c]; exact hp i (by omega))
    refine ⟨B, ?_, b2, fun k hk => ?_, b4, fun i hi => b5 i hi⟩
    · rw [s_X12_undo_l150]
      show kB _ _ _ = _
      rw [kB_n (show ¬ (4 : Int32) ≤ nI x from nI_ge (b := 4) (by omega) (by omega))]
      simp only [kL_p]
      rw [kO_p (nI_in (show x < 4 by omega) (by decide)), kO_p (nI_in (show x < 4 by omega) (by decide)), kO_p (nI_in (show x < 4 by omega) (by decide)), kO_p (nI_in (show x < 4 by omega) (by decide)), nI_clamp (by omega), nI_1]
      exact b1
    · refine (b3 k hk).trans ?_
      simp only [List.mem_cons, List.not_mem_nil, or_false, not_or] at hk
      exact (mSA_o _ _ hk.2).trans (mSA_o _ _ hk.1)
theorem rb_undo_l100 (N : Nat) : ∀ (j x n : Nat) (A : zMS), x + j = 7 → j < n → (∀ i : Nat, i < x → A.2.1 8 i = A.2.1 62 i ∧ A.2.1 9 i = A.2.1 63 i ∧ A.2.1 10 i = A.2.1 64 i) → ∃ B : zMS, f_X12_undo_l100 N n A (nI x) = f_X12_undo_l150 N N B 0 ∧ B.1 = A.1 ∧ (∀ k : Nat, k ∉ ([8, 9, 10] : List Nat) → B.2.1 k = A.2.1 k) ∧ B.2.2 = A.2.2 ∧ ∀ i : Nat, i < 7 → B.2.1 8 i = A.2.1 62 i ∧ B.2.1 9 i = A.2.1 63 i ∧ B.2.1 10 i = A.2.1 64 i
  | j, x, 0, A, _, h, _ => by omega
  | 0, x, n + 1, A, hx, _, hp => by
    have hx : x = 7 := by omega
    subst hx
    refine ⟨A, ?_, rfl, fun _ _ => rfl, rfl, hp⟩
    rw [s_X12_undo_l100]
    show kB _ _ _ = _
    rw [kB_p (show (7 : Int32) ≤ nI 7 by decide)]
  | j + 1, x, n + 1, A, hx, hn, hp => by
    let A1 : zMS := mSA A 8 (upd (A.2.1 8) x (A.2.1 62 x))
    let A2 : zMS := mSA A1 9 (upd (A1.2.1 9) x (A1.2.1 63 x))
    let A3 : zMS := mSA A2 10 (upd (A2.2.1 10) x (A2.2.1 64 x))
    have f8 : A3.2.1 8 = upd (A.2.1 8) x (A.2.1 62 x) := rfl
    have f62 : A3.2.1 62 = A.2.1 62 := rfl
    have f9 : A3.2.1 9 = upd (A.2.1 9) x (A.2.1 63 x) := rfl
    have f63 : A3.2.1 63 = A.2.1 63 := rfl
    have f10 : A3.2.1 10 = upd (A.2.1 10) x (A.2.1 64 x) := rfl
    have f64 : A3.2.1 64 = A.2.1 64 := rfl
    obtain ⟨B, b1, b2, b3, b4, b5⟩ := rb_undo_l100 N j (x + 1) n A3 (by omega) (by omega) (by
      intro i hi
      rw [f8, f62, f9, f63, f10, f64]
      by_cases c : i = x
      · subst c; rw [pk_us, pk_us, pk_us]; exact ⟨rfl, rfl, rfl⟩
      · rw [pk_un c, pk_un c, pk_un c]; exact hp i (by omega))
    refine ⟨B, ?_, b2, fun k hk => ?_, b4, fun i hi => b5 i hi⟩
    · rw [s_X12_undo_l100]
      show kB _ _ _ = _
      rw [kB_n (show ¬ (7 : Int32) ≤ nI x from nI_ge (b := 7) (by omega) (by omega))]
      simp only [kL_p]
      rw [kO_p (nI_in (show x < 7 by omega) (by decide)), kO_p (nI_in (show x < 7 by omega) (by decide)), kO_p (nI_in (show x < 7 by omega) (by decide)), kO_p (nI_in (show x < 7 by omega) (by decide)), kO_p (nI_in (show x < 7 by omega) (by decide)), kO_p (nI_in (show x < 7 by omega) (by decide)), nI_clamp (by omega), nI_1]
      exact b1
    · refine (b3 k hk).trans ?_
      simp only [List.mem_cons, List.not_mem_nil, or_false, not_or] at hk
      exact (mSA_o _ _ hk.2.2).trans ((mSA_o _ _ hk.2.1).trans (mSA_o _ _ hk.1))
section RBI
variable {N nT nP p : Nat} {L : List rbCl} {HS : List (Nat × List rbCl)} {SX SX' SR SR' : zRS} {SN SN' SK S : zHS} {ST : zTS} {SM SM' : zMS} {SV SV' : Nat → Nat → Int64} {SG SG' SY SZ : Nat → Int32} {SD SD' : List (Nat × zPS)} {SE SE' : List ((Nat → Nat) × zQS)}
theorem rb_image (hN : 101 ≤ N) (h : rbAll SX SN SK SR SV SG SD SE SM) : ∃ r SX' SK' SM', f_X11_image N SX SN SK ST S SR SV SG SY SZ SD SE = some (r, SX', SK') ∧ f_X12_image N SM = some (r, SM') ∧ rbAll SX' SN SK' SR SV SG SD SE SM' := by
  obtain ⟨nT, nP, L, HS, a, b, c, d, e, f, g, l⟩ := h
  have sd := a.2.2.2.2.2.2.2.2.1
  obtain ⟨SK', k1, k2⟩ := rb_copy (SD := SD) hN (fun i hi => by rw [(sd i hi).1]; exact (sd i hi).2) a.2.2.2.2.2.2.2.1 SK
  let A : zMS := mSI (mSI (mSI (mSI (mSI (mSI (mSI (mSI (mSI (mSI (mSI (mSI SM 50 1) 51 (SM.1 15)) 52 (SM.1 0)) 53 (SM.1 1)) 54 (SM.1 2)) 55 (SM.1 3)) 56 (SM.1 4)) 57 (SM.1 5)) 58 (SM.1 6)) 59 (SM.1 7)) 60 (SM.1 46)) 61 (SM.1 48)
  obtain ⟨B1, p1, p2, p3, p4, p5⟩ := rb_image_l95 N 7 0 N A (by omega) (by omega) (fun i hi => by omega)
  obtain ⟨B2, q1, q2, q3, q4, q5⟩ := rb_image_l145 N 4 0 N B1 (by omega) (by omega) (fun i hi => by omega)
  obtain ⟨B3, r1, r2, r3, r4, r5⟩ := rb_image_l182 N 16 0 N B2 (by omega) (by omega) (fun i hi => by omega)
  have s47 : B3.2.1 47 = SM.2.1 47 := by rw [r3 47 (by decide), q3 47 (by decide), p3 47 (by decide)]; rfl
  obtain ⟨B4, t1, t2, t3, t4, t5⟩ := rb_image_l208 N 8 0 N B3 (by omega) (by omega) (fun i hi => by omega) (by rw [s47]; exact fun i hi => (sd i hi).2)
  obtain ⟨B5, u1, u2, u3, u4, u5⟩ := rb_image_l234 N 12 0 N B4 (by omega) (by omega) (fun i hi => by omega)
  have hi : B5.1 = A.1 := by rw [u2, t2, r2, q2, p2]
  have ha : ∀ k : Nat, k ∉ ([62, 63, 64, 65, 66, 67, 68, 69] : List Nat) → B5.2.1 k = SM.2.1 k := by
    intro k hk
    simp only [List.mem_cons, List.not_mem_nil, or_false, not_or] at hk
    obtain ⟨h62, h63, h64, h65, h66, h67, h68, h69⟩ := hk
    rw [u3 k (by simp only [List.mem_cons, List.not_mem_nil, or_false]; exact h68), t3 k (by simp only [List.mem_cons, List.not_mem_nil, or_false]; exact h69), r3 k (by simp only [List.mem_cons, List.not_mem_nil, or_false]; exact h67), q3 k (by simp only [List.mem_cons, List.not_mem_nil, or_false, not_or]; exact ⟨h65, h66⟩), p3 k (by simp only [List.mem_cons, List.not_mem_nil, or_false, not_or]; exact ⟨h62, h63, h64⟩)]
    rfl
  have hl : B5.2.2 = SM.2.2 := by rw [u4, t4, r4, q4, p4]; rfl
  have i62 : ∀ i : Nat, i < 7 → B5.2.1 62 i = SM.2.1 8 i ∧ B5.2.1 63 i = SM.2.1 9 i ∧ B5.2.1 64 i = SM.2.1 10 i := by
    intro i hi
    rw [u3 62 (by decide), t3 62 (by decide), r3 62 (by decide), q3 62 (by decide), u3 63 (by decide), t3 63 (by decide), r3 63 (by decide), q3 63 (by decide), u3 64 (by decide), t3 64 (by decide), r3 64 (by decide), q3 64 (by decide)]
    exact p5 i hi
  have i65 : ∀ i : Nat, i < 4 → B5.2.1 65 i = SM.2.1 11 i ∧ B5.2.1 66 i = SM.2.1 12 i := by
    intro i hi
    rw [u3 65 (by decide), t3 65 (by decide), r3 65 (by decide), u3 66 (by decide), t3 66 (by decide), r3 66 (by decide)]
    have := q5 i hi
    rw [p3 11 (by decide), p3 12 (by decide)] at this
    exact this
  have i67 : ∀ i : Nat, i < 16 → B5.2.1 67 i = SM.2.1 13 i := by
    intro i hi
    rw [u3 67 (by decide), t3 67 (by decide), r5 i hi, q3 13 (by decide), p3 13 (by decide)]
    rfl
  have i69 : ∀ i : Nat, i < 8 → B5.2.1 69 i = SM.2.1 47 i := by
    intro i hi
    rw [u3 69 (by decide), t5 i hi, s47]
  have i68 : ∀ i : Nat, i < 12 → B5.2.1 68 i = SM.2.1 49 i := by
    intro i hi
    rw [u5 i hi, t3 49 (by decide), r3 49 (by decide), q3 49 (by decide), p3 49 (by decide)]
    rfl
  have rel1 : rbRel SM B5 := by
    refine ⟨fun k hk => ?_, fun k hk => ha k (mem_ne (by decide) hk), fun t _ => ⟨by rw [ha 8 (by decide)], by rw [ha 9 (by decide)], by rw [ha 10 (by decide)]⟩, fun p _ => ⟨by rw [ha 11 (by decide)], by rw [ha 12 (by decide)]⟩, fun i _ => by rw [ha 13 (by decide)], fun i _ => by rw [ha 47 (by decide)], fun i _ => by rw [ha 49 (by decide)]⟩
    rw [hi]
    simp only [rbRI, List.mem_cons, List.not_mem_nil, or_false] at hk
    rcases hk with rfl | rfl | rfl | rfl | rfl | rfl | rfl | rfl | rfl | rfl | rfl | rfl | rfl | rfl <;> rfl
  have rel2 : rbRel SM (rbUn B5) := by
    refine ⟨fun k hk => ?_, fun k hk => ?_, fun t ht => i62 t ht, fun p hp => i65 p hp, fun i hi => i67 i hi, fun i hi => i69 i hi, fun i hi => i68 i hi⟩
    · simp only [rbRI, List.mem_cons, List.not_mem_nil, or_false] at hk
      rcases hk with rfl | rfl | rfl | rfl | rfl | rfl | rfl | rfl | rfl | rfl | rfl | rfl | rfl | rfl
      · show B5.1 52 = _; rw [hi]; rfl
      · show B5.1 53 = _; rw [hi]; rfl
      · show B5.1 54 = _; rw [hi]; rfl
      · show B5.1 55 = _; rw [hi]; rfl
      · show B5.1 56 = _; rw [hi]; rfl
      · show B5.1 57 = _; rw [hi]; rfl
      · show B5.1 58 = _; rw [hi]; rfl
      · show B5.1 59 = _; rw [hi]; rfl
      · show B5.1 51 = _; rw [hi]; rfl
      · show B5.1 32 = _; rw [hi]; rfl
      · show B5.1 33 = _; rw [hi]; rfl
      · show B5.1 34 = _; rw [hi]; rfl
      · show B5.1 60 = _; rw [hi]; rfl
      · show B5.1 61 = _; rw [hi]; rfl
    · simp only [List.mem_cons, List.not_mem_nil, or_false] at hk
      rcases hk with rfl | rfl | rfl | rfl | rfl | rfl
      · exact ha 20 (by decide)
      · exact ha 21 (by decide)
      · exact ha 22 (by decide)
      · exact ha 23 (by decide)
      · exact ha 24 (by decide)
      · exact ha 25 (by decide)
  refine ⟨SN.1 8, rSI SX 11 1, SK', B5, ?_, ?_, nT, nP, L, HS, a.p rel1 rbSE.rf rbSD.rf, b.e rfl rbSE.rf (by rw [hi]; rfl) (fun k hk => ha k (mem_ne (by decide) hk)), ?_, Or.inr ⟨rfl, by rw [hi]; rfl, nT, nP, L, (a.p rel2 rbSE.rf rbSD.rf).eq k2, ?_⟩, ?_, ?_, ?_, ?_⟩
  · unfold f_X11_image
    rw [k1, kC_p, kL_p]
  · unfold f_X12_image
    refine (show f_X12_image_l95 N N A 0 = _ from p1).trans (q1.trans (r1.trans (t1.trans (u1.trans ?_))))
    rw [hi, a.1.2.1.1]
    show some (SM.1 1, B5) = _
    rw [a.1.2.1.2.1]
  · unfold rbLk
    rw [show B5.1 15 = SM.1 15 by rw [hi]; rfl]
    exact c
  · unfold rbLk
    rw [show (rbUn B5).1 15 = SM.1 15 from (show B5.1 51 = _ by rw [hi]; rfl), k2.2.2.2.2.2.2]
    exact c
  · unfold rbTx
    rw [show B5.1 16 = SM.1 16 by rw [hi]; rfl, ha 19 (by decide)]
    exact e
  · unfold rbTg
    rw [show B5.1 70 = SM.1 70 by rw [hi]; rfl, ha 71 (by decide)]
    exact f
  · unfold rbTp
    rw [ha 72 (by decide), ha 73 (by decide), hl]
    exact g
  · unfold rbLt
    rw [ha 30 (by decide)]
    exact l
theorem rb_undo (hN : 101 ≤ N) (h : rbAll SX SN SK SR SV SG SD SE SM) : ∃ r SN' SM', f_X11_undo N SX SN SK ST S SR SV SG SY SZ SD SE = some (r, SN') ∧ f_X12_undo N SM = some (r, SM') ∧ rbAll SX SN' SK SR SV SG SD SE SM' := by
  have h0 := h
  obtain ⟨nT, nP, L, HS, a, b, c, d, e, f, g, l⟩ := h
  unfold f_X11_undo f_X12_undo
  rcases d with ⟨d1, d2⟩ | ⟨d1, d2, nT', nP', L', d3, d4⟩
  · rw [d1, d2, kB_00, kB_00]; exact ⟨_, _, _, rfl, rfl, h0⟩
  · rw [d1, d2, kB_10, kB_10]
    have sd : ∀ i : Nat, i < 8 → SK.2.1 5 i = SM.2.1 69 i ∧ (SM.2.1 69 i = 0 ∨ SM.2.1 69 i = 1) := d3.2.2.2.2.2.2.2.2.1
    obtain ⟨SN', k1, k2⟩ := rb_copy (SD := SD) hN (fun i hi => by rw [(sd i hi).1]; exact (sd i hi).2) d3.2.2.2.2.2.2.2.1 SN
    let A : zMS := mSI (mSI (mSI (mSI (mSI (mSI (mSI (mSI (mSI (mSI (mSI SM 15 (SM.1 51)) 0 (SM.1 52)) 1 (SM.1 53)) 2 (SM.1 54)) 3 (SM.1 55)) 4 (SM.1 56)) 5 (SM.1 57)) 6 (SM.1 58)) 7 (SM.1 59)) 46 (SM.1 60)) 48 (SM.1 61)
    obtain ⟨B1, p1, p2, p3, p4, p5⟩ := rb_undo_l100 N 7 0 N A (by omega) (by omega) (fun i hi => by omega)
    obtain ⟨B2, q1, q2, q3, q4, q5⟩ := rb_undo_l150 N 4 0 N B1 (by omega) (by omega) (fun i hi => by omega)
    obtain ⟨B3, r1, r2, r3, r4, r5⟩ := rb_undo_l187 N 16 0 N B2 (by omega) (by omega) (fun i hi => by omega)
    have s69 : B3.2.1 69 = SM.2.1 69 := by rw [r3 69 (by decide), q3 69 (by decide), p3 69 (by decide)]; rfl
    obtain ⟨B4, t1, t2, t3, t4, t5⟩ := rb_undo_l213 N 8 0 N B3 (by omega) (by omega) (fun i hi => by omega) (by rw [s69]; exact fun i hi => (sd i hi).2)
    obtain ⟨B5, u1, u2, u3, u4, u5⟩ := rb_undo_l239 N 12 0 N B4 (by omega) (by omega) (fun i hi => by omega)
    have hi : B5.1 = A.1 := by rw [u2, t2, r2, q2, p2]
    have ha : ∀ k : Nat, k ∉ ([8, 9, 10, 11, 12, 13, 49, 47] : List Nat) → B5.2.1 k = SM.2.1 k := by
      intro k hk
      simp only [List.mem_cons, List.not_mem_nil, or_false, not_or] at hk
      obtain ⟨h62, h63, h64, h65, h66, h67, h68, h69⟩ := hk
      rw [u3 k (by simp only [List.mem_cons, List.not_mem_nil, or_false]; exact h68), t3 k (by simp only [List.mem_cons, List.not_mem_nil, or_false]; exact h69), r3 k (by simp only [List.mem_cons, List.not_mem_nil, or_false]; exact h67), q3 k (by simp only [List.mem_cons, List.not_mem_nil, or_false, not_or]; exact ⟨h65, h66⟩), p3 k (by simp only [List.mem_cons, List.not_mem_nil, or_false, not_or]; exact ⟨h62, h63, h64⟩)]
      rfl
    have hl : B5.2.2 = SM.2.2 := by rw [u4, t4, r4, q4, p4]; rfl
    have i8 : ∀ i : Nat, i < 7 → B5.2.1 8 i = SM.2.1 62 i ∧ B5.2.1 9 i = SM.2.1 63 i ∧ B5.2.1 10 i = SM.2.1 64 i := by
      intro i hi
      rw [u3 8 (by decide), t3 8 (by decide), r3 8 (by decide), q3 8 (by decide), u3 9 (by decide), t3 9 (by decide), r3 9 (by decide), q3 9 (by decide), u3 10 (by decide), t3 10 (by decide), r3 10 (by decide), q3 10 (by decide)]
      exact p5 i hi
    have i11 : ∀ i : Nat, i < 4 → B5.2.1 11 i = SM.2.1 65 i ∧ B5.2.1 12 i = SM.2.1 66 i := by
      intro i hi
      rw [u3 11 (by decide), t3 11 (by decide), r3 11 (by decide), u3 12 (by decide), t3 12 (by decide), r3 12 (by decide)]
      have := q5 i hi
      rw [p3 65 (by decide), p3 66 (by decide)] at this
      exact this
    have i13 : ∀ i : Nat, i < 16 → B5.2.1 13 i = SM.2.1 67 i := by
      intro i hi
      rw [u3 13 (by decide), t3 13 (by decide), r5 i hi, q3 67 (by decide), p3 67 (by decide)]
      rfl
    have i47 : ∀ i : Nat, i < 8 → B5.2.1 47 i = SM.2.1 69 i := by
      intro i hi
      rw [u3 47 (by decide), t5 i hi, s69]
    have i49 : ∀ i : Nat, i < 12 → B5.2.1 49 i = SM.2.1 68 i := by
      intro i hi
      rw [u5 i hi, t3 68 (by decide), r3 68 (by decide), q3 68 (by decide), p3 68 (by decide)]
      rfl
    have rel1 : rbRel (rbUn SM) B5 := by
      refine ⟨fun k hk => ?_, fun k hk => ?_, fun t ht => i8 t ht, fun p hp => i11 p hp, fun i hi => i13 i hi, fun i hi => i47 i hi, fun i hi => i49 i hi⟩
      · rw [hi]
        simp only [rbRI, List.mem_cons, List.not_mem_nil, or_false] at hk
        rcases hk with rfl | rfl | rfl | rfl | rfl | rfl | rfl | rfl | rfl | rfl | rfl | rfl | rfl | rfl <;> rfl
      · simp only [List.mem_cons, List.not_mem_nil, or_false] at hk
        rcases hk with rfl | rfl | rfl | rfl | rfl | rfl
        · exact ha 20 (by decide)
        · exact ha 21 (by decide)
        · exact ha 22 (by decide)
        · exact ha 23 (by decide)
        · exact ha 24 (by decide)
        · exact ha 25 (by decide)
    have ii : ∀ k : Nat, k ∈ ([14, 16, 32, 33, 34, 50, 51, 52, 53, 54, 55, 56, 57, 58, 59, 60, 61, 70] : List Nat) → B5.1 k = SM.1 k := by
      intro k hk
      rw [hi]
      simp only [List.mem_cons, List.not_mem_nil, or_false] at hk
      rcases hk with rfl | rfl | rfl | rfl | rfl | rfl | rfl | rfl | rfl | rfl | rfl | rfl | rfl | rfl | rfl | rfl | rfl | rfl <;> rfl
    have rel3 : rbRel (rbUn SM) (rbUn B5) := rbUn_rel (fun k hk => ii k (by revert k; decide)) (fun k hk => ha k (mem_ne (by decide) hk))
    have hn : rbNow SN' B5 SD SE nT' nP' L' := (d3.p rel1 rbSE.rf rbSD.rf).eq k2
    rw [k1, kC_p]
    refine ⟨SN'.1 8, SN', B5, rfl, ?_, nT', nP', L', HS, hn, b.e rfl rbSE.rf (ii 14 (by decide)) (fun k hk => ha k (mem_ne (by decide) hk)), ?_, Or.inr ⟨d1, (ii 50 (by decide)).trans d2, nT', nP', L', d3.p rel3 rbSE.rf rbSD.rf, ?_⟩, ?_, ?_, ?_, ?_⟩
    · refine (show f_X12_undo_l100 N N A 0 = _ from p1).trans (q1.trans (r1.trans (t1.trans (u1.trans ?_))))
      rw [hn.1.2.1.1, hn.1.2.1.2.1]
    · unfold rbLk
      rw [show B5.1 15 = (rbUn SM).1 15 from rel1.1 15 (by decide), k2.2.2.2.2.2.2]
      exact d4
    · unfold rbLk
      rw [show (rbUn B5).1 15 = (rbUn SM).1 15 from rel3.1 15 (by decide)]
      exact d4
    · unfold rbTx
      rw [ii 16 (by decide), ha 19 (by decide)]
      exact e
    · unfold rbTg
      rw [ii 70 (by decide), ha 71 (by decide)]
      exact f
    · unfold rbTp
      rw [ha 72 (by decide), ha 73 (by decide), hl]
      exact g
    · unfold rbLt
      rw [ha 30 (by decide)]
      exact l
end RBI
