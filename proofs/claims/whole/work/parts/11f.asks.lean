/-! B: one ASK on both sides -/
theorem hSI_s (S : zHS) (k : Nat) (v : Int32) : (hSI S k v).1 k = v := va_up_self _ _ _
theorem hSI_o (S : zHS) {k j : Nat} (v : Int32) (h : j ≠ k) : (hSI S k v).1 j = S.1 j := va_up_ne _ _ h
theorem hSI_2 (S : zHS) (k : Nat) (v : Int32) : (hSI S k v).2 = S.2 := rfl
theorem hSA_s (S : zHS) (k : Nat) (f : Nat → Int32) : (hSA S k f).2.1 k = f := va_up_self _ _ _
theorem hSA_o (S : zHS) {k j : Nat} (f : Nat → Int32) (h : j ≠ k) : (hSA S k f).2.1 j = S.2.1 j := va_up_ne _ _ h
theorem hSA_1 (S : zHS) (k : Nat) (f : Nat → Int32) : (hSA S k f).1 = S.1 := rfl
theorem hSA_2 (S : zHS) (k : Nat) (f : Nat → Int32) : (hSA S k f).2.2 = S.2.2 := rfl
def rbDI : List Nat := [2, 3, 4, 5, 6, 7, 33, 35]
def rbDA : List Nat := [10, 31]
def rbFr (SM SM' : zMS) : Prop := (∀ k : Nat, k ∉ rbDI → SM'.1 k = SM.1 k) ∧ (∀ k : Nat, k ∉ rbDA → SM'.2.1 k = SM.2.1 k) ∧ SM'.2.2 = SM.2.2
theorem rbFr.rf {SM : zMS} : rbFr SM SM := ⟨fun _ _ => rfl, fun _ _ => rfl, rfl⟩
theorem rbFr.tr {A B C : zMS} (h : rbFr A B) (h2 : rbFr B C) : rbFr A C := ⟨fun k hk => (h2.1 k hk).trans (h.1 k hk), fun k hk => (h2.2.1 k hk).trans (h.2.1 k hk), h2.2.2.trans h.2.2⟩
theorem rbFr.I {A B : zMS} {k : Nat} {v : Int32} (hk : k ∈ rbDI) (h : rbFr A B) : rbFr A (mSI B k v) := ⟨fun j hj => (mSI_o B v (fun e : j = k => hj (by rw [e]; exact hk))).trans (h.1 j hj), h.2.1, h.2.2⟩
theorem rbFr.A {A B : zMS} {k : Nat} {f : Nat → Int32} (hk : k ∈ rbDA) (h : rbFr A B) : rbFr A (mSA B k f) := ⟨h.1, fun j hj => (mSA_o B f (fun e : j = k => hj (by rw [e]; exact hk))).trans (h.2.1 j hj), h.2.2⟩
def rbHI : List Nat := [11, 12, 13, 14, 15, 16]
def rbFh (S S' : zHS) : Prop := (∀ k : Nat, k ∉ rbHI → S'.1 k = S.1 k) ∧ (∀ k : Nat, k ≠ 2 → S'.2.1 k = S.2.1 k) ∧ S'.2.2 = S.2.2
theorem rbFh.rf {S : zHS} : rbFh S S := ⟨fun _ _ => rfl, fun _ _ => rfl, rfl⟩
theorem rbFh.tr {A B C : zHS} (h : rbFh A B) (h2 : rbFh B C) : rbFh A C := ⟨fun k hk => (h2.1 k hk).trans (h.1 k hk), fun k hk => (h2.2.1 k hk).trans (h.2.1 k hk), h2.2.2.trans h.2.2⟩
theorem rbFh.I {A B : zHS} {k : Nat} {v : Int32} (hk : k ∈ rbHI) (h : rbFh A B) : rbFh A (hSI B k v) := ⟨fun j hj => (hSI_o B v (fun e : j = k => hj (by rw [e]; exact hk))).trans (h.1 j hj), h.2.1, h.2.2⟩
theorem rbFh.A {A B : zHS} {f : Nat → Int32} (h : rbFh A B) : rbFh A (hSA B 2 f) := ⟨h.1, fun j hj => (hSA_o B f hj).trans (h.2.1 j hj), h.2.2⟩
theorem rbMl.e {SM SM' : zMS} {B : Nat} (h1 : SM'.2.1 21 = SM.2.1 21) (h2 : SM'.2.1 22 = SM.2.1 22) (h3 : SM'.2.1 23 = SM.2.1 23) (h4 : SM'.2.1 24 = SM.2.1 24) (h5 : SM'.2.1 25 = SM.2.1 25) : ∀ {L : List rbCl} {k : Nat}, rbMl SM B L k → rbMl SM' B L k
  | [], _, _ => trivial
  | c :: L, k, h => by
    obtain ⟨a, b, d, e⟩ := h
    refine ⟨by rw [h1]; exact a, by rw [h2]; exact b, ?_, rbMl.e h1 h2 h3 h4 h5 e⟩
    rw [h3, h4, h5]
    exact d
theorem rbMc.e {SM SM' : zMS} {L : List rbCl} (h0 : SM'.1 15 = SM.1 15) (h6 : SM'.2.1 20 = SM.2.1 20) (h1 : SM'.2.1 21 = SM.2.1 21) (h2 : SM'.2.1 22 = SM.2.1 22) (h3 : SM'.2.1 23 = SM.2.1 23) (h4 : SM'.2.1 24 = SM.2.1 24) (h5 : SM'.2.1 25 = SM.2.1 25) (h : rbMc SM L) : rbMc SM' L := by
  rcases h with ⟨a, b⟩ | ⟨f, a, b, c, d, e⟩
  · exact Or.inl ⟨by rw [h0]; exact a, b⟩
  · exact Or.inr ⟨f, by rw [h0]; exact a, b, by rw [h6]; exact c, d, rbMl.e h1 h2 h3 h4 h5 e⟩
theorem rbMc.fr {SM SM' : zMS} {L : List rbCl} (f : rbFr SM SM') (h : rbMc SM L) : rbMc SM' L :=
  rbMc.e (f.1 _ (by decide)) (f.2.1 _ (by decide)) (f.2.1 _ (by decide)) (f.2.1 _ (by decide)) (f.2.1 _ (by decide)) (f.2.1 _ (by decide)) (f.2.1 _ (by decide)) h
theorem rbK.fr {S S' : zHS} {SM SM' : zMS} {SD : List (Nat × zPS)} {nT nP : Nat} {L : List rbCl} (f : rbFh S S') (g : rbFr SM SM') (h : rbK S SM SD nT nP L) : rbK S' SM' SD nT nP L := by
  obtain ⟨⟨a1, a2, a3⟩, ⟨b1, b2, b3⟩, c, d, e, q, m, w, l1, l2⟩ := h
  obtain ⟨f1, f2, f3⟩ := f
  have g1 := g.1
  have g2 := g.2.1
  refine ⟨⟨(f1 7 (by decide)).trans a1, (g1 0 (by decide)).trans a2, a3⟩, ⟨(f1 8 (by decide)).trans b1, (g1 1 (by decide)).trans b2, b3⟩, ?_, ?_, ?_, ?_, m.fr g, w, (f1 19 (by decide)).trans l1, ?_⟩
  · rw [f2 0 (by decide), f2 1 (by decide), g2 8 (by decide), g2 9 (by decide)]; exact c
  · rw [g2 8 (by decide)]; exact d
  · rw [f2 4 (by decide), g2 13 (by decide)]; exact e
  · rw [f3, g2 11 (by decide), g2 12 (by decide)]; exact q
  · rw [g1 32 (by decide), f1 18 (by decide)]; exact l2
def rbSE (SE SE' : List ((Nat → Nat) × zQS)) : Prop := ∀ (a : Nat) (u : Nat → Nat) (Q : zQS), hlook SE a = some (u, Q) → ∃ Q' : zQS, hlook SE' a = some (u, Q') ∧ Q'.1 = Q.1 ∧ ∀ j : Nat, j ≠ 4 → Q'.2 j = Q.2 j
theorem rbSE.rf {SE : List ((Nat → Nat) × zQS)} : rbSE SE SE := fun _ _ Q h => ⟨Q, h, rfl, fun _ _ => rfl⟩
theorem rbSE.tr {A B C : List ((Nat → Nat) × zQS)} (h : rbSE A B) (k : rbSE B C) : rbSE A C := fun a u Q e => by
  obtain ⟨Q1, e1, e2, e3⟩ := h a u Q e
  obtain ⟨Q2, f1, f2, f3⟩ := k a u Q1 e1
  exact ⟨Q2, f1, f2.trans e2, fun j hj => (f3 j hj).trans (e3 j hj)⟩
theorem rbHCl.e {Q Q' : zQS} (h1 : Q'.1 = Q.1) (h2 : ∀ j : Nat, j ≠ 4 → Q'.2 j = Q.2 j) : ∀ {L : List rbCl} {j s : Nat}, rbHCl Q L j s → rbHCl Q' L j s
  | [], _, _, _ => trivial
  | c :: L, j, s, h => by
    obtain ⟨a, b, d, e, f, g⟩ := h
    refine ⟨?_, ?_, ?_, ?_, ?_, rbHCl.e h1 h2 g⟩
    · rw [h2 0 (by decide)]; exact a
    · rw [h2 1 (by decide)]; exact b
    · rw [h2 2 (by decide)]; exact d
    · rw [h1]; exact e
    · rw [h2 3 (by decide)]; exact f
theorem rbHC.e {Q Q' : zQS} {L : List rbCl} (h1 : Q'.1 = Q.1) (h2 : ∀ j : Nat, j ≠ 4 → Q'.2 j = Q.2 j) (h : rbHC L Q) : rbHC L Q' := by
  obtain ⟨a, b, c, d, e, f, g⟩ := h
  exact ⟨by rw [h1]; exact a, by rw [h1]; exact b, by rw [h1]; exact c, by rw [h1]; exact d, by rw [h1]; exact e, f, rbHCl.e h1 h2 g⟩
theorem rbCc.e {S S' : zHS} {A B : List ((Nat → Nat) × zQS)} {L : List rbCl} (h1 : S'.2.2.2 = S.2.2.2) (h2 : rbSE A B) (h : rbCc S A L) : rbCc S' B L := by
  rcases h with ⟨a, b⟩ | ⟨a, u, Q, b, c, d, e⟩
  · exact Or.inl ⟨h1.trans a, b⟩
  · obtain ⟨Q', q1, q2, q3⟩ := h2 a u Q c
    exact Or.inr ⟨a, u, Q', h1.trans b, q1, d, e.e q2 q3⟩
theorem hlook_hput {a : Nat} {u : Nat → Nat} {Q Q' : zQS} : ∀ {SE : List ((Nat → Nat) × zQS)}, hlook SE a = some (u, Q) → u 200 = a ∧ hlook (hput SE a Q') a = some (u, Q')
  | [], h => by cases h
  | x :: L, h => by
    unfold hlook at h
    split at h
    · rename_i e
      cases h
      refine ⟨e, ?_⟩
      unfold hput
      rw [if_pos e]
      unfold hlook
      rw [if_pos e]
    · rename_i e
      obtain ⟨h1, h2⟩ := hlook_hput (Q' := Q') h
      refine ⟨h1, ?_⟩
      unfold hput
      rw [if_neg e]
      unfold hlook
      rw [if_neg e]
      exact h2
theorem hlook_hput_o {a b : Nat} {Q' : zQS} (hab : b ≠ a) : ∀ {SE : List ((Nat → Nat) × zQS)}, hlook (hput SE a Q') b = hlook SE b
  | [] => rfl
  | x :: L => by
    unfold hput
    split
    · rename_i e
      unfold hlook
      rw [if_neg (fun q => hab (q.symm.trans e)), if_neg (fun q => hab (q.symm.trans e))]
    · rename_i e
      unfold hlook
      rw [hlook_hput_o hab]
theorem rbSE_put {SE : List ((Nat → Nat) × zQS)} {a : Nat} {u : Nat → Nat} {Q Q' : zQS} (h : hlook SE a = some (u, Q)) (h1 : Q'.1 = Q.1) (h2 : ∀ j : Nat, j ≠ 4 → Q'.2 j = Q.2 j) : rbSE SE (hput SE a Q') := by
  intro b v R hb
  by_cases e : b = a
  · subst e
    rw [h] at hb
    cases hb
    exact ⟨Q', (hlook_hput h).2, h1, h2⟩
  · exact ⟨R, by rw [hlook_hput_o e]; exact hb, rfl, fun _ _ => rfl⟩
theorem qSA_o (S : zQS) {k j : Nat} (f : Nat → Int32) (h : j ≠ k) : (qSA S k f).2 j = S.2 j := va_up_ne _ _ h
theorem qSA_s (S : zQS) (k : Nat) (f : Nat → Int32) : (qSA S k f).2 k = f := va_up_self _ _ _
theorem qSA_1 (S : zQS) (k : Nat) (f : Nat → Int32) : (qSA S k f).1 = S.1 := rfl
section RBA
variable {N : Nat} {S : zHS} {SM : zMS} {SD : List (Nat × zPS)} {SE : List ((Nat → Nat) × zQS)} {nT nP p t : Nat} {L : List rbCl}
theorem rb_look {Q : zQS} {pv : zPS} (h4 : Q.1 4 = 6) (h7 : S.1 7 = nI nT) (hT : nT ≤ 7) (ht : t < nT) : ∃ Q' : zQS, f_X2_look Q pv S (nI t) = some Q' ∧ Q'.1 = Q.1 ∧ (∀ j : Nat, j ≠ 4 → Q'.2 j = Q.2 j) ∧ ∀ i : Nat, i < 6 → Q'.2 4 i = rbFc pv.2.1 pv.1 (nI t) (S.1 11 / 10) (S.1 13) (S.2.1 2 t - S.2.1 2 t / 100 * 100) i := by
  unfold f_X2_look
  simp only [kL_p, qSA_1, qSA_s, h4, rb_has h7 hT ht, kC_p, kB_10, nI_clamp (show t < 2 ^ 31 by omega), kO_p (rb_in2 (show t < 7 by omega) (by decide))]
  rw [kO_p (by decide), kO_p (by decide), kO_p (by decide), kO_p (by decide), kO_p (by decide), kO_p (by decide)]
  refine ⟨_, rfl, rfl, ?_, ?_⟩
  · intro j hj
    simp only [qSA_o _ _ hj]
  · intro i hi
    rw [qSA_s]
    have c0 : Int32.toNatClampNeg 0 = 0 := rfl
    have c1 : Int32.toNatClampNeg 1 = 1 := rfl
    have c2 : Int32.toNatClampNeg 2 = 2 := rfl
    have c3 : Int32.toNatClampNeg 3 = 3 := rfl
    have c4 : Int32.toNatClampNeg 4 = 4 := rfl
    have c5 : Int32.toNatClampNeg 5 = 5 := rfl
    rw [c0, c1, c2, c3, c4, c5]
    have hc : i = 0 ∨ i = 1 ∨ i = 2 ∨ i = 3 ∨ i = 4 ∨ i = 5 := by omega
    rcases hc with rfl | rfl | rfl | rfl | rfl | rfl <;> rfl
theorem rb_moved (hN : 101 ≤ N) (h : rbK S SM SD nT nP L) (he : rbE S SM) (hp : p < nP) (ht : t < nT) (hc : rbCc S SE L) {w : Nat} (hw : S.2.2.1 p = some w) {r : Int32} (hr : r = 0 ∨ r = 1) : ∃ SE', f_X1_moved N S SD SE (some w) (nI t) r = some (if r = 0 then rbSm (rbF SM p t) 1 L 2 else rbSm (rbF SM p t) 0 L 4, SE') ∧ rbSE SE SE' := by
  have hb : ∀ y0 : Int32, ∃ SE', f_X1_moved_b9 N S SD SE (some w) (nI t) r y0 = some (if r = 0 then rbSm (rbF SM p t) 1 L y0 else rbSm (rbF SM p t) 0 L y0, SE') ∧ rbSE SE SE' := by
    intro y0
    unfold f_X1_moved_b9
    rcases hc with ⟨h1, rfl⟩ | ⟨a, u, Q, h1, h2, h3, h4⟩
    · rw [h1, kN_p0]
      refine ⟨SE, ?_, rbSE.rf⟩
      have : ∀ w0 : Int32, rbSm (rbF SM p t) w0 [] y0 = y0 := fun _ => rfl
      rw [this, this]
      split <;> rfl
    · obtain ⟨Q', l1, l2, l3, l4⟩ := rb_look (pv := (SM.2.1 11 p, nI p, SM.2.1 12 p)) h4.2.2.2.2.1 h.1.1 h.1.2.2 ht
      obtain ⟨w', k, v, w1, w2, -, -, w3, w4⟩ := h.2.2.2.2.2.1 p hp
      rw [hw] at w1
      cases w1
      rw [← w3, ← w4] at w2
      obtain ⟨g1, g2⟩ := hlook_hput (Q' := Q') h2
      rw [h1, kN_p1, kN_p1, rb_has h.1.1 h.1.2.2 ht, kC_p, kB_10, h2, kD_p, w2, kC_p, l1, kC_p, kL_p, h3, g2, kD_p, kD_p]
      have hF : ∀ i : Nat, i < 6 → Q'.2 4 i = rbF SM p t i := by
        intro i hi
        rw [l4 i hi]
        unfold rbF
        rw [he.1, he.2.2.2.1, (he.2.2.2.2.2.2.2 t (by have := h.1.2.2; omega)).1]
      have hs : ∀ w0 : Int32, w0 = 0 ∨ w0 = 1 → f_X2_sum N Q' w0 y0 = some (rbSm (rbF SM p t) w0 L y0) := fun w0 hw0 => rb_sum hN (h4.e l2 l3) h.2.2.2.2.2.2.2.1 hF hw0
      refine ⟨_, ?_, rbSE_put h2 l2 l3⟩
      rw [hs 1 (Or.inr rfl), hs 0 (Or.inl rfl), kC_p, kC_p]
      rcases hr with rfl | rfl
      · rw [kB_00, if_pos rfl]
      · rw [kB_10, if_neg (by decide)]
  unfold f_X1_moved
  rcases hr with rfl | rfl
  · rw [kB_00]
    exact hb 2
  · rw [kB_10]
    exact hb 4
end RBA
