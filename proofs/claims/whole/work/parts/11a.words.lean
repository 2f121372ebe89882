/-! B: the written functions on their own -/
section RBW
variable {α β γ δ ε ζ η : Type}
def rbS (x : Option α) (P : α → Prop) : Prop := ∃ a, x = some a ∧ P a
theorem rb_some {a : α} {P : α → Prop} (h : P a) : rbS (some a) P := ⟨a, rfl, h⟩
theorem kO_p {c : Prop} [Decidable c] {x : Option α} (h : c) : kO c x = x := if_pos h
theorem kB_p {c : Prop} [Decidable c] {x y : Option α} (h : c) : kB c x y = x := if_pos h
theorem kB_n {c : Prop} [Decidable c] {x y : Option α} (h : ¬ c) : kB c x y = y := if_neg h
theorem kL_p {v : β} {f : β → Option α} : kL v f = f v := rfl
theorem kC_p {v : β} {f : β → Option α} : kC (some v) f = f v := rfl
theorem kD_p {v : β} {w : γ} {f : β → γ → Option α} : kD (some (v, w)) f = f v w := rfl
theorem kD3_p {v : β} {w : γ} {u : δ} {f : β → γ → δ → Option α} : kD3 (some (v, w, u)) f = f v w u := rfl
theorem kD4_p {v : β} {w : γ} {u : δ} {t : ε} {f : β → γ → δ → ε → Option α} : kD4 (some (v, w, u, t)) f = f v w u t := rfl
theorem kD6_p {v : β} {w : γ} {u : δ} {t : ε} {s : ζ} {r : η} {f : β → γ → δ → ε → ζ → η → Option α} : kD6 (some (v, w, u, t, s, r)) f = f v w u t s r := rfl
theorem kN_p0 {a : Option α} {b : β → Option α} : kN none a b = a := rfl
theorem kN_p1 {x : β} {a : Option α} {b : β → Option α} : kN (some x) a b = b x := rfl
theorem rb_O {c : Prop} [Decidable c] {x : Option α} {P : α → Prop} (hc : c) (h : rbS x P) : rbS (kO c x) P := by rw [kO_p hc]; exact h
theorem rb_B {c : Prop} [Decidable c] {x y : Option α} {P : α → Prop} (h1 : c → rbS x P) (h2 : ¬ c → rbS y P) : rbS (kB c x y) P := by
  by_cases hc : c
  · rw [kB_p hc]; exact h1 hc
  · rw [kB_n hc]; exact h2 hc
theorem rb_T {c : Prop} [Decidable c] {x y : Option α} {P : α → Prop} (hc : c) (h : rbS x P) : rbS (kB c x y) P := by rw [kB_p hc]; exact h
theorem rb_F {c : Prop} [Decidable c] {x y : Option α} {P : α → Prop} (hc : ¬ c) (h : rbS y P) : rbS (kB c x y) P := by rw [kB_n hc]; exact h
theorem rb_L {v : β} {f : β → Option α} {P : α → Prop} (h : rbS (f v) P) : rbS (kL v f) P := h
theorem rb_C {x : Option β} {f : β → Option α} {P : α → Prop} {v : β} (e : x = some v) (h : rbS (f v) P) : rbS (kC x f) P := by subst e; exact h
theorem rb_Cs {x : Option β} {f : β → Option α} {P : α → Prop} {Q : β → Prop} (e : rbS x Q) (h : ∀ v, Q v → rbS (f v) P) : rbS (kC x f) P := by obtain ⟨v, rfl, q⟩ := e; exact h v q
theorem rb_D {x : Option (β × γ)} {f : β → γ → Option α} {P : α → Prop} {v : β} {w : γ} (e : x = some (v, w)) (h : rbS (f v w) P) : rbS (kD x f) P := by subst e; exact h
theorem rb_Ds {x : Option (β × γ)} {f : β → γ → Option α} {P : α → Prop} {Q : β × γ → Prop} (e : rbS x Q) (h : ∀ v w, Q (v, w) → rbS (f v w) P) : rbS (kD x f) P := by obtain ⟨⟨v, w⟩, rfl, q⟩ := e; exact h v w q
theorem rb_D3s {x : Option (β × γ × δ)} {f : β → γ → δ → Option α} {P : α → Prop} {Q : β × γ × δ → Prop} (e : rbS x Q) (h : ∀ v w u, Q (v, w, u) → rbS (f v w u) P) : rbS (kD3 x f) P := by obtain ⟨⟨v, w, u⟩, rfl, q⟩ := e; exact h v w u q
theorem rb_D4s {x : Option (β × γ × δ × ε)} {f : β → γ → δ → ε → Option α} {P : α → Prop} {Q : β × γ × δ × ε → Prop} (e : rbS x Q) (h : ∀ v w u t, Q (v, w, u, t) → rbS (f v w u t) P) : rbS (kD4 x f) P := by obtain ⟨⟨v, w, u, t⟩, rfl, q⟩ := e; exact h v w u t q
theorem rbS.w {x : Option α} {P Q : α → Prop} (h : rbS x P) (k : ∀ a, P a → Q a) : rbS x Q := by obtain ⟨a, e, q⟩ := h; exact ⟨a, e, k a q⟩
theorem rbS.eq {x : Option α} {P : α → Prop} {a : α} (h : rbS x P) (e : x = some a) : P a := by obtain ⟨b, e2, q⟩ := h; rw [e] at e2; cases e2; exact q
end RBW
/-! small numbers -/
theorem rb_nlt0 {a : Nat} (h : a < 2 ^ 31) : ¬ nI a < 0 := nI_pos h
theorem rb_lt {a b : Nat} (h : a < b) (hb : b < 2 ^ 31) : nI a < nI b := nI_lt h hb
theorem rb_sub1lt {a b : Nat} (ha : a < 2 ^ 30) (hb : b < 2 ^ 30) : nI b - 1 < nI a ↔ b ≤ a := by
  have h := pk_sub_toInt (a := b) (b := 1) hb (by omega)
  have e : (nI 1 : Int32) = 1 := rfl
  rw [e] at h
  rw [Int32.lt_iff_toInt_lt, h, nI_toInt (by omega)]
  omega
theorem rb_xor (a b : Nat) : nI a ^^^ nI b = nI (a ^^^ b) := by
  apply Int32.toBitVec.inj
  show BitVec.ofNat 32 a ^^^ BitVec.ofNat 32 b = BitVec.ofNat 32 (a ^^^ b)
  simp
theorem rb_or (a b : Nat) : nI a ||| nI b = nI (a ||| b) := by
  apply Int32.toBitVec.inj
  show BitVec.ofNat 32 a ||| BitVec.ofNat 32 b = BitVec.ofNat 32 (a ||| b)
  simp
theorem rb_and (a b : Nat) : nI a &&& nI b = nI (a &&& b) := by
  apply Int32.toBitVec.inj
  show BitVec.ofNat 32 a &&& BitVec.ofNat 32 b = BitVec.ofNat 32 (a &&& b)
  simp
theorem rb_bit {X r : Nat} {b : Bool} (h1 : X / 2 = r) (h2 : X % 2 = 1 ↔ b = true) : X = 2 * r + b.toNat := by
  cases b
  · have : ¬ X % 2 = 1 := fun h => absurd (h2.mp h) (by decide)
    show X = 2 * r + 0
    omega
  · have : X % 2 = 1 := h2.mpr rfl
    show X = 2 * r + 1
    omega
theorem rb_bm (r : Nat) (b : Bool) : (2 * r + b.toNat) / 2 = r ∧ ((2 * r + b.toNat) % 2 = 1 ↔ b = true) ∧ b.toNat / 2 = 0 ∧ (b.toNat % 2 = 1 ↔ b = true) := by
  cases b
  · refine ⟨?_, ?_, rfl, by decide⟩
    · show (2 * r + 0) / 2 = r
      omega
    · show (2 * r + 0) % 2 = 1 ↔ _
      constructor
      · intro h; omega
      · intro h; cases h
  · refine ⟨?_, ?_, rfl, by decide⟩
    · show (2 * r + 1) / 2 = r
      omega
    · show (2 * r + 1) % 2 = 1 ↔ _
      constructor
      · intro h; rfl
      · intro h; omega
theorem rb_xor1 (r : Nat) (b : Bool) : (2 * r + b.toNat) ^^^ 1 = 2 * r + (!b).toNat := by
  obtain ⟨m1, m2, -, -⟩ := rb_bm r b
  apply rb_bit
  · rw [Nat.xor_div_two, m1]
    exact Nat.xor_zero _
  · rw [Nat.xor_mod_two_eq_one, m2]
    cases b <;> decide
theorem rb_or1 (r : Nat) (a b : Bool) : (2 * r + a.toNat) ||| b.toNat = 2 * r + (a || b).toNat := by
  obtain ⟨m1, m2, -, -⟩ := rb_bm r a
  obtain ⟨-, -, n1, n2⟩ := rb_bm r b
  apply rb_bit
  · rw [Nat.or_div_two, m1, n1]
    exact Nat.or_zero _
  · rw [Nat.or_mod_two_eq_one, m2, n2]
    cases a <;> cases b <;> decide
theorem rb_andm2 {m : Nat} (h : m < 2 ^ 31) : nI m &&& (-2) = nI (2 * (m / 2)) := by
  have e : (-2 : Int32) = nI 4294967294 := by decide
  rw [e, rb_and]
  congr 1
  have h1 : (m &&& 4294967294) / 2 = m / 2 := by
    rw [Nat.and_div_two]
    show m / 2 &&& (2 ^ 31 - 1) = m / 2
    rw [Nat.and_two_pow_sub_one_eq_mod]
    exact Nat.mod_eq_of_lt (by omega)
  have h2 : (m &&& 4294967294) % 2 = 0 := by
    rcases Nat.mod_two_eq_zero_or_one (m &&& 4294967294) with h | h
    · exact h
    · rw [Nat.and_mod_two_eq_one] at h
      omega
  omega
