/-! B: a HOUSE on both sides -/
def rbGq (q : rbQc) : Prop := q.1 < 4 ∧ q.2.1 < 100 ∧ (q.1 < 2 → rbWf q.2.2 0 1)
section RBHO
variable {N n pos c e0 E1 f : Nat} {B : Nat → Nat} {S S0 S1 : zMS} {SX SR : zRS} {SN SN' SK : zHS} {SM SM' : zMS} {SV : Nat → Nat → Int64} {SG : Nat → Int32} {SD : List (Nat × zPS)} {SE SE' : List ((Nat → Nat) × zQS)} {nT nP : Nat} {L L' : List rbCl} {HS : List (Nat × List rbCl)}
theorem pTx_ok : ∀ (f pos : Nat) (cl : List rbQc), pos ≤ n → cl.length + f ≤ 10 → (∀ q, q ∈ cl → rbGq q) → (rbTks cl).length ≤ pos → (pTx (rbBy n B) n f pos cl).1 = true → (pTx (rbBy n B) n f pos cl).2.2.length ≤ 10 ∧ (∀ q, q ∈ (pTx (rbBy n B) n f pos cl).2.2 → rbGq q) ∧ (rbTks (pTx (rbBy n B) n f pos cl).2.2).length ≤ n
  | 0, pos, cl, _, _, _, _ => fun h => (by cases h)
  | f + 1, pos, cl, hp, hl, hg, ht => by
    obtain ⟨k1, k2⟩ := pC_ok (B := B) hp
    rw [pTx_s]
    cases q : (pC (rbBy n B) pos).1 with
    | false =>
      rw [if_neg Bool.false_ne_true]
      exact fun h => (by cases h)
    | true =>
      obtain ⟨a1, a2, a3, a4, a5, a6⟩ := k1 q
      have hg' : ∀ x, x ∈ cl ++ [(pC (rbBy n B) pos).2.2] → rbGq x := by
        intro x hx
        rcases List.mem_append.mp hx with hx | hx
        · exact hg x hx
        · rw [List.mem_singleton] at hx
          subst hx
          exact ⟨a3, a4, a6⟩
      have ht' : (rbTks (cl ++ [(pC (rbBy n B) pos).2.2])).length ≤ (pC (rbBy n B) pos).2.1 := by
        rw [rbTks_a, rbTks_1, List.length_append]
        omega
      have hl' : (cl ++ [(pC (rbBy n B) pos).2.2]).length = cl.length + 1 := by
        rw [List.length_append]
        rfl
      rw [if_pos (rfl : true = true)]
      unfold pTy
      by_cases d : (pC (rbBy n B) pos).2.1 = n
      · rw [if_pos d]
        exact fun _ => ⟨by show (cl ++ [(pC (rbBy n B) pos).2.2]).length ≤ 10; omega, hg', by show (rbTks (cl ++ [(pC (rbBy n B) pos).2.2])).length ≤ n; omega⟩
      · rw [if_neg d]
        by_cases f0 : f = 0
        · rw [if_pos f0]
          exact fun h => (by cases h)
        · rw [if_neg f0]
          by_cases e : rbBy n B (pC (rbBy n B) pos).2.1 = 59
          · have p1 := rbBy_lt (show rbBy n B (pC (rbBy n B) pos).2.1 < 128 by omega)
            rw [if_pos e]
            exact pTx_ok f _ _ p1 (by omega) hg' (by omega)
          · rw [if_neg e]
            exact fun h => (by cases h)
theorem m_tx (hN : 201 ≤ N) (hL0 : rbLt S0) (hc0 : n ≤ 100 ∧ S0.1 16 = nI n ∧ ∀ i : Nat, i < n → S0.2.1 19 i = nI (B i) ∧ B i < 128) (hf : f < 6) : ∀ (r k pos e0 : Nat) (cl : List rbQc) (S : zMS) (m : Nat), k + (r + 1) = 10 → cl.length = k → rbFg S0 f S → S.1 17 = nI pos → S.1 27 = nI e0 → pos ≤ n → 100 * f ≤ e0 → e0 ≤ 100 * f + pos → rbMl S e0 (cl.map rbCv) (10 * f) → r + 1 < m → ∃ S', f_X12_goesText_l15 N m S (nI f) (nI k) = some (if (pTx (rbBy n B) n (r + 1) pos cl).1 then 1 else 0, S') ∧ S'.1 17 = nI (pTx (rbBy n B) n (r + 1) pos cl).2.1 ∧ rbFg S0 f S' ∧ ((pTx (rbBy n B) n (r + 1) pos cl).1 = true → S'.2.1 20 f = nI (pTx (rbBy n B) n (r + 1) pos cl).2.2.length ∧ rbMl S' (100 * (f + 1)) ((pTx (rbBy n B) n (r + 1) pos cl).2.2.map rbCv) (10 * f))
  | r, k, pos, e0, cl, S, 0, _, _, _, _, _, _, _, _, _, hm => by omega
  | r, k, pos, e0, cl, S, m + 1, hk, hkl, hF, h17, h27, hp, he, he2, hM, hm => by
    obtain ⟨f1, f2, f3, f4, f5, f6⟩ := id hF
    have hn := hc0.1
    have hmp : rbMp n B S pos := ⟨hc0.1, (f1 16 (by decide)).trans hc0.2.1, h17, fun i hi => by rw [f2 19 (by decide)]; exact hc0.2.2 i hi⟩
    have hLt : rbLt S := fun i hi => by rw [f2 30 (by decide)]; exact hL0 i hi
    obtain ⟨S1, u1, u2, u3, u4⟩ := m_clause (c := 10 * f + k) (E1 := 100 * f) hN hLt hmp hp (by omega) (by omega) h27 he he2
    have g1 := hF.q u3 (by omega) he
    have ok := pC_ok (B := B) hp
    rw [s_X12_goesText_l15]
    show ∃ S', kL _ _ = _ ∧ _
    simp only [kL_p]
    rw [show (10 : Int32) = nI 10 from rfl, pk_mul, nI_add, u1, kD_p, pTx_s]
    cases q : (pC (rbBy n B) pos).1 with
    | false =>
      rw [if_neg Bool.false_ne_true, if_neg Bool.false_ne_true, kB_00]
      exact ⟨S1, rfl, u2, g1, fun h => (by cases h)⟩
    | true =>
      obtain ⟨a1, a2, a3, a4, a5, a6⟩ := ok.1 q
      obtain ⟨v1, v2⟩ := u4 q
      have hM1 : rbMl S1 (e0 + (pC (rbBy n B) pos).2.2.2.2.length) ((cl ++ [(pC (rbBy n B) pos).2.2]).map rbCv) (10 * f) := by
        rw [List.map_append, rbMl_a, List.length_map, hkl]
        refine ⟨rbMl_w (Nat.le_add_right _ _) (rbMl_f (S := S) u3.2.2.2.2 (fun i p1 p2 => u3.2.2.2.1 i ?_) hM), v2⟩
        rw [List.length_map] at p2
        omega
      rw [if_pos (rfl : true = true), if_pos (rfl : true = true), kB_10, nI_1, kO_p (nI_in hf (by decide)), nI_clamp (by omega)]
      generalize hS2 : mSA S1 20 (upd (S1.2.1 20) f (nI (k + 1))) = S2
      have g2 : rbFg S0 f S2 := by
        obtain ⟨h1, h2, h3, h4, h5, h6⟩ := g1
        subst hS2
        refine ⟨h1, fun j hj => ?_, h3, fun i hi => ?_, h5, h6⟩
        · rw [mSA_o _ _ (fun e => hj (by rw [e]; decide))]
          exact h2 j hj
        · show upd (S1.2.1 20) f (nI (k + 1)) i = _
          rw [pk_un hi]
          exact h4 i hi
      have s17 : S2.1 17 = nI (pC (rbBy n B) pos).2.1 := by rw [← hS2]; exact u2
      have s16 : S2.1 16 = nI n := (g2.1 16 (by decide)).trans hc0.2.1
      have s27 : S2.1 27 = nI (e0 + (pC (rbBy n B) pos).2.2.2.2.length) := by rw [← hS2]; exact v1
      have s20 : S2.2.1 20 f = nI (k + 1) := by rw [← hS2, mSA_s, pk_us]
      have hM2 : rbMl S2 (e0 + (pC (rbBy n B) pos).2.2.2.2.length) ((cl ++ [(pC (rbBy n B) pos).2.2]).map rbCv) (10 * f) := by
        subst hS2
        exact rbMl_f (S := S1) (S1 := mSA S1 20 (upd (S1.2.1 20) f (nI (k + 1)))) (fun _ _ => rfl) (fun _ _ _ => ⟨rfl, rfl, rfl, rfl⟩) hM1
      have hl' : (cl ++ [(pC (rbBy n B) pos).2.2]).length = k + 1 := by
        rw [List.length_append, hkl]
        rfl
      rw [s17, s16]
      unfold pTy
      by_cases d : (pC (rbBy n B) pos).2.1 = n
      · rw [kB_p (by rw [d]), if_pos d]
        refine ⟨S2, rfl, s17, g2, fun _ => ⟨?_, rbMl_w (by omega) hM2⟩⟩
        rw [s20]
        show _ = nI (cl ++ [(pC (rbBy n B) pos).2.2]).length
        rw [hl']
      · rw [kB_n (fun e => d ((nI_eq (by omega) (by omega)).mp e)), if_neg d]
        by_cases f0 : r = 0
        · rw [kB_p (show nI (k + 1) = nI 10 by rw [show k + 1 = 10 by omega]), if_pos f0]
          exact ⟨S2, rfl, s17, g2, fun h => (by cases h)⟩
        · have m2 : rbMp n B S2 (pC (rbBy n B) pos).2.1 := ⟨hc0.1, s16, s17, fun i hi => by rw [g2.2.1 19 (by decide)]; exact hc0.2.2 i hi⟩
          rw [kB_n (nI_nk (w := k + 1) (k := 10) (v := nI 10) (by omega) rfl (by decide) (by omega)), if_neg f0, show (59 : Int32) = nI 59 from rfl, m_takes m2 a2 (by decide)]
          by_cases e : rbBy n B (pC (rbBy n B) pos).2.1 = 59
          · have p1 := rbBy_lt (show rbBy n B (pC (rbBy n B) pos).2.1 < 128 by omega)
            rw [if_pos e, if_pos e, kD_p, kB_10]
            obtain ⟨r, rfl⟩ : ∃ r', r = r' + 1 := ⟨r - 1, by omega⟩
            refine m_tx hN hL0 hc0 hf r (k + 1) _ (e0 + (pC (rbBy n B) pos).2.2.2.2.length) _ _ m (by omega) hl' ?_ (mSI_s _ _ _) (by rw [mSI_o _ _ (by decide)]; exact s27) p1 (by omega) (by omega) ?_ (by omega)
            · obtain ⟨h1, h2⟩ := g2
              exact ⟨fun j hj => by rw [mSI_o _ _ (fun e => hj (by rw [e]; decide))]; exact h1 j hj, h2⟩
            · exact rbMl_f (S := S2) (S1 := mSI S2 17 (nI ((pC (rbBy n B) pos).2.1 + 1))) (fun _ _ => rfl) (fun _ _ _ => ⟨rfl, rfl, rfl, rfl⟩) hM2
          · rw [if_neg e, if_neg e, kD_p, kB_00]
            exact ⟨S2, rfl, s17, g2, fun h => (by cases h)⟩
theorem m_text (hN : 201 ≤ N) (hL0 : rbLt S0) (hc0 : n ≤ 100 ∧ S0.1 16 = nI n ∧ ∀ i : Nat, i < n → S0.2.1 19 i = nI (B i) ∧ B i < 128) (hf : f < 6) : ∃ S', f_X12_goesText N S0 (nI f) = some (if (pTx (rbBy n B) n 10 0 []).1 then 1 else 0, S') ∧ S'.1 17 = nI (pTx (rbBy n B) n 10 0 []).2.1 ∧ rbFg S0 f S' ∧ ((pTx (rbBy n B) n 10 0 []).1 = true → S'.2.1 20 f = nI (pTx (rbBy n B) n 10 0 []).2.2.length ∧ rbMl S' (100 * (f + 1)) ((pTx (rbBy n B) n 10 0 []).2.2.map rbCv) (10 * f)) := by
  unfold f_X12_goesText
  simp only [kL_p]
  rw [show (100 : Int32) = nI 100 from rfl, pk_mul]
  refine m_tx hN hL0 hc0 hf 9 0 0 (100 * f) [] _ N rfl rfl ⟨fun k hk => ?_, fun _ _ => rfl, rfl, fun _ _ => rfl, fun _ _ => ⟨rfl, rfl, rfl, rfl⟩, fun _ _ => rfl⟩ ?_ (mSI_s _ _ _) (Nat.zero_le _) (Nat.le_refl _) (Nat.le_refl _) trivial (by omega)
  · rw [mSI_o _ _ (fun e => hk (by rw [e]; decide)), mSI_o _ _ (fun e => hk (by rw [e]; decide))]
  · rw [mSI_o _ _ (by decide), mSI_s]
    rfl
/-- the class's rows of a house -/
theorem rb_hcl {Q : zQS} {f2 f3 f4 g : Nat → Int32} {M K : Nat} (h0 : ∀ j : Nat, j < M → Q.2 0 j = f2 j) (h1 : ∀ j : Nat, j < M → Q.2 1 j = f3 j) (h2 : ∀ j : Nat, j < M → Q.2 2 j = f4 j) (h3 : ∀ j : Nat, j < K → Q.2 3 j = g j) (hK : K ≤ Q.1 3) : ∀ (cl : List rbQc) (k s : Nat), k + cl.length ≤ M → s + (rbTks cl).length ≤ K → rbEn f2 f3 f4 cl k s → rbAt g rbEC s (rbTks cl) → rbHCl Q (cl.map rbCv) k s
  | [], _, _, _, _, _, _ => trivial
  | q :: t, k, s, hk, hs, hE, hA => by
    have hk : k + (t.length + 1) ≤ M := hk
    rw [rbTks_c, List.length_append] at hs
    have hs1 : s + q.2.2.length ≤ K := by omega
    have hs2 : s + q.2.2.length + (rbTks t).length ≤ K := by omega
    rw [rbTks_c, rbAt_app] at hA
    obtain ⟨e1, e2, e3, e4⟩ := hE
    exact ⟨(h0 k (by omega)).trans e1, (h1 k (by omega)).trans e2, (h2 k (by omega)).trans e3, by show s + q.2.2.length ≤ Q.1 3; omega, rbAt_u (fun i p1 p2 => h3 i (by have p2 : i < s + q.2.2.length := p2; omega)) hA.1, rb_hcl h0 h1 h2 h3 hK t (k + 1) (s + q.2.2.length) (by omega) (by omega) e4 hA.2⟩
theorem rb_cpy {g : Nat → Int32} {m j : Nat} (h : j < m) : va_cpy g (fun _ => 0) 0 0 m j = g j := by
  unfold va_cpy
  rw [if_pos ⟨Nat.zero_le _, by omega⟩]
  congr 1
  omega
theorem rb_hc {R0 SR' : zRS} {cl : List rbQc} (hT : rbTs n B R0 SR' pos cl) (hl : cl.length ≤ 10) (ht : (rbTks cl).length ≤ 100) : rbHC (cl.map rbCv) (zQ0 SR' (nI cl.length) (nI (rbTks cl).length)) := by
  obtain ⟨⟨-, -, a7, aA, -⟩, -, -, aE⟩ := hT
  have e1 : (nI cl.length).toNatClampNeg = cl.length := nI_clamp (by omega)
  have e2 : (nI (rbTks cl).length).toNatClampNeg = (rbTks cl).length := nI_clamp (by omega)
  unfold zQ0
  rw [e1, e2]
  refine ⟨by rw [List.length_map]; rfl, by rw [List.length_map]; rfl, by rw [List.length_map]; rfl, ht, rfl, by rw [List.length_map]; exact hl, ?_⟩
  exact rb_hcl (M := cl.length) (K := (rbTks cl).length) (fun j hj => rb_cpy hj) (fun j hj => rb_cpy hj) (fun j hj => rb_cpy hj) (fun j hj => rb_cpy hj) (Nat.le_refl _) cl 0 0 (by omega) (by omega) aE aA
theorem rb_wl {cl : List rbQc} (h : ∀ q, q ∈ cl → rbGq q) : rbWL (cl.map rbCv) := by
  intro c hc
  obtain ⟨q, hq, rfl⟩ := List.mem_map.mp hc
  obtain ⟨a, b, d⟩ := h q hq
  refine ⟨fun e => d ?_, q.2.1, by omega, rfl⟩
  rcases e with e | e
  · have := (nI_eq (b := 0) (show q.1 < 2 ^ 31 by omega) (by decide)).mp (show nI q.1 = nI 0 from e)
    omega
  · have := (nI_eq (b := 1) (show q.1 < 2 ^ 31 by omega) (by decide)).mp (show nI q.1 = nI 1 from e)
    omega
theorem rbMh.g {f' : Nat} (h : rbMh S0 f' L) (g : rbFg S0 f S) (hf : f' < f) : rbMh S f' L := by
  obtain ⟨-, -, -, g4, g5, g6⟩ := g
  obtain ⟨h1, h2, h3, h4⟩ := h
  exact ⟨h1, (g4 f' (by omega)).trans h2, h3, rbMl_f (S := S0) (fun i hi => g6 i (by omega)) (fun i p1 p2 => g5 i (by omega)) h4⟩
theorem rbNow.l (h : rbNow SN SM SD SE nT nP L) : rbWL L ∧ rbCc SN SE L ∧ SN.1 19 = rbLast 3 L 30 ∧ SN.1 18 = rbLast 2 L 60 := by
  obtain ⟨⟨-, -, -, -, -, -, -, w, l1, l2⟩, -, k, -, z32, -⟩ := h
  refine ⟨w, k, l1, ?_⟩
  rcases l2 with ⟨-, l2⟩ | ⟨l, a, b, d, -⟩
  · exact l2
  · rw [z32] at d
    exact absurd d (rb_m1 (by omega)).2
theorem rbNow.h (ri : ∀ k : Nat, k ∈ ([0, 1, 2, 3, 4, 5, 6, 7, 32, 33, 34, 46, 48] : List Nat) → SM'.1 k = SM.1 k) (ra : ∀ k : Nat, k ∈ ([8, 9, 10, 11, 12, 13, 47, 49] : List Nat) → SM'.2.1 k = SM.2.1 k) (mc : rbMc SM' L') (wl : rbWL L') (cc : rbCc SN' SE' L') (s1 : ∀ k : Nat, k ≠ 18 → k ≠ 19 → SN'.1 k = SN.1 k) (s2 : SN'.2.1 = SN.2.1) (s3 : SN'.2.2.1 = SN.2.2.1) (l1 : SN'.1 19 = rbLast 3 L' 30) (l2 : SN'.1 18 = rbLast 2 L' 60) (h : rbNow SN SM SD SE nT nP L) : rbNow SN' SM' SD SE' nT nP L' := by
  obtain ⟨⟨⟨a1, a2, a3⟩, ⟨b1, b2, b3⟩, c, f, e, q, -, -, -, -⟩, ⟨g1, g2, g3, g4, g5, g6, g7, g8⟩, -, o, z32, z33, z34, pk, sd, hd, bk, ev⟩ := h
  have t : ∀ k : Nat, k ≠ 18 → k ≠ 19 → SN'.1 k = SN.1 k := s1
  refine ⟨⟨⟨(t 7 (by decide) (by decide)).trans a1, (ri 0 (by decide)).trans a2, a3⟩, ⟨(t 8 (by decide) (by decide)).trans b1, (ri 1 (by decide)).trans b2, b3⟩, ?_, ?_, ?_, ?_, mc, wl, l1, Or.inl ⟨(ri 32 (by decide)).trans z32, l2⟩⟩, ⟨?_, ?_, ?_, ?_, ?_, ?_, ?_, ?_⟩, cc, ?_, (ri 32 (by decide)).trans z32, (ri 33 (by decide)).trans z33, (ri 34 (by decide)).trans z34, ?_, ?_, ?_, ?_, ?_⟩
  · rw [s2, ra 8 (by decide), ra 9 (by decide)]; exact c
  · rw [ra 8 (by decide)]; exact f
  · rw [s2, ra 13 (by decide)]; exact e
  · rw [s3, ra 11 (by decide), ra 12 (by decide)]; exact q
  · rw [t 11 (by decide) (by decide), ri 3 (by decide)]; exact g1
  · rw [ri 3 (by decide)]; exact g2
  · rw [t 12 (by decide) (by decide), ri 4 (by decide)]; exact g3
  · rw [t 13 (by decide) (by decide), ri 5 (by decide)]; exact g4
  · rw [t 14 (by decide) (by decide), ri 6 (by decide)]; exact g5
  · rw [t 16 (by decide) (by decide), ri 2 (by decide)]; exact g6
  · rw [ri 2 (by decide)]; exact g7
  · rw [s2, ra 10 (by decide)]; exact g8
  · rw [t 15 (by decide) (by decide), ri 7 (by decide)]; exact o
  · rw [s3]; exact pk
  · rw [s2, ra 47 (by decide)]; exact sd
  · rw [t 9 (by decide) (by decide), ri 46 (by decide)]; exact hd
  · rw [t 10 (by decide) (by decide), s2, ri 48 (by decide), ra 49 (by decide)]; exact bk
  · rw [ri 2 (by decide)]; exact ev
theorem rb_mc (hh : rbHs HS SX SM SE) (hl : rbLk HS L SN SM') (h15 : ∀ f : Nat, rbMh SM f L → rbMh SM' f L) : rbMc SM' L := by
  rcases hl with ⟨a, b, -⟩ | ⟨f, a, h1, h2, -⟩
  · exact Or.inl ⟨a, b⟩
  · obtain ⟨u, Q, -, -, -, q, -⟩ := hh.2.2.2 f a L h2
    exact Or.inr ⟨f, h1, h15 f q⟩
theorem hlook_app {u : Nat → Nat} {Q : zQS} : ∀ {A : List ((Nat → Nat) × zQS)}, (∀ (a : Nat) (x : (Nat → Nat) × zQS), hlook A a = some x → hlook (A ++ [(u, Q)]) a = some x) ∧ ((∀ x ∈ A, x.1 200 ≠ u 200) → hlook (A ++ [(u, Q)]) (u 200) = some (u, Q))
  | [] => ⟨fun a x h => (by cases h), fun _ => if_pos rfl⟩
  | y :: A => by
    obtain ⟨i1, i2⟩ := hlook_app (u := u) (Q := Q) (A := A)
    refine ⟨fun a x h => ?_, fun hx => ?_⟩
    · have h : (if y.1 200 = a then some y else hlook A a) = some x := h
      show (if y.1 200 = a then some y else hlook (A ++ [(u, Q)]) a) = some x
      split at h
      · rename_i e; rw [if_pos e]; exact h
      · rename_i e; rw [if_neg e]; exact i1 a x h
    · show (if y.1 200 = u 200 then some y else hlook (A ++ [(u, Q)]) (u 200)) = some (u, Q)
      rw [if_neg (hx y (List.mem_cons_self ..))]
      exact i2 (fun x m => hx x (List.mem_cons_of_mem _ m))
theorem rbSE_app {u : Nat → Nat} {Q : zQS} : rbSE SE (SE ++ [(u, Q)]) := fun a v Q' h => ⟨Q', hlook_app.1 a _ h, rfl, fun _ _ => rfl⟩
theorem rbLk.w {HS' : List (Nat × List rbCl)} (hs : ∀ (f : Nat) (x : Nat × List rbCl), HS[f]? = some x → HS'[f]? = some x) (i : SM'.1 15 = SM.1 15) (h : rbLk HS L SN SM) : rbLk HS' L SN SM' := by
  rcases h with ⟨a, b, c⟩ | ⟨f, a, b, c, d⟩
  · exact Or.inl ⟨i.trans a, b, c⟩
  · exact Or.inr ⟨f, a, i.trans b, hs f _ c, d⟩
/-- all of it, once the text was read -/
theorem rb_hall {SX' SR' : zRS} {HS' : List (Nat × List rbCl)} (a : rbNow SN SM SD SE nT nP L) (d : rbIm SX SK SM SD SE HS) (f : rbTg SG SM) (w : rbTp SX SV SM) (l : rbLt SM) (hi : ∀ k : Nat, k ∉ ([14, 15, 16, 17, 18, 27, 28, 29] : List Nat) → SM'.1 k = SM.1 k) (ha : ∀ k : Nat, k ∉ ([20, 21, 22, 23, 24, 25, 26] : List Nat) → SM'.2.1 k = SM.2.1 k) (h2 : SM'.2.2 = SM.2.2) (x2 : SX'.2 = SX.2) (x11 : SX'.1 11 = SX.1 11) (r5 : SR'.1 5 = 0) (m16 : SM'.1 16 = 0) (s : rbSE SE SE') (s1 : ∀ k : Nat, k ≠ 18 → k ≠ 19 → SN'.1 k = SN.1 k) (s2 : SN'.2.1 = SN.2.1) (s3 : SN'.2.2.1 = SN.2.2.1) (hs : ∀ (f : Nat) (x : Nat × List rbCl), HS[f]? = some x → HS'[f]? = some x) (b' : rbHs HS' SX' SM' SE') (c' : rbLk HS' L' SN' SM') (wl : rbWL L') (cc : rbCc SN' SE' L') (l1 : SN'.1 19 = rbLast 3 L' 30) (l2 : SN'.1 18 = rbLast 2 L' 60) : rbAll SX' SN' SK SR' SV SG SD SE' SM' := by
  refine ⟨nT, nP, L', HS', a.h (fun k hk => hi k (mem_ne (by decide) hk)) (fun k hk => ha k (mem_ne (by decide) hk)) (rb_mc b' c' (fun _ h => h)) wl cc s1 s2 s3 l1 l2, b', c', ?_, ?_, ?_, ?_, ?_⟩
  · rcases d with ⟨d1, d2⟩ | ⟨d1, d2, nT2, nP2, L2, d3, d4⟩
    · exact Or.inl ⟨x11.trans d1, (hi 50 (by decide)).trans d2⟩
    · obtain ⟨e1, e2, e3, e4⟩ := d3.l
      have k2 : rbLk HS' L2 SK (rbUn SM') := rbLk.w (SM := rbUn SM) (SM' := rbUn SM') hs (show SM'.1 51 = SM.1 51 from hi 51 (by decide)) d4
      refine Or.inr ⟨x11.trans d1, (hi 50 (by decide)).trans d2, nT2, nP2, L2, ?_, k2⟩
      refine d3.h ?_ ?_ (rb_mc b' k2 (fun _ q => rbMh.e (SM := SM') (SM' := rbUn SM') rfl rfl rfl rfl rfl rfl q)) e1 (e2.e rfl s) (fun _ _ _ => rfl) rfl rfl e3 e4
      · intro k hk
        simp only [List.mem_cons, List.not_mem_nil, or_false] at hk
        rcases hk with rfl | rfl | rfl | rfl | rfl | rfl | rfl | rfl | rfl | rfl | rfl | rfl | rfl
        · exact hi 52 (by decide)
        · exact hi 53 (by decide)
        · exact hi 54 (by decide)
        · exact hi 55 (by decide)
        · exact hi 56 (by decide)
        · exact hi 57 (by decide)
        · exact hi 58 (by decide)
        · exact hi 59 (by decide)
        · exact hi 32 (by decide)
        · exact hi 33 (by decide)
        · exact hi 34 (by decide)
        · exact hi 60 (by decide)
        · exact hi 61 (by decide)
      · intro k hk
        simp only [List.mem_cons, List.not_mem_nil, or_false] at hk
        rcases hk with rfl | rfl | rfl | rfl | rfl | rfl | rfl | rfl
        · exact ha 62 (by decide)
        · exact ha 63 (by decide)
        · exact ha 64 (by decide)
        · exact ha 65 (by decide)
        · exact ha 66 (by decide)
        · exact ha 67 (by decide)
        · exact ha 69 (by decide)
        · exact ha 68 (by decide)
  · exact ⟨0, by omega, r5, m16, fun i hi => by omega⟩
  · unfold rbTg; rw [hi 70 (by decide), ha 71 (by decide)]; exact f
  · unfold rbTp; rw [ha 72 (by decide), ha 73 (by decide), h2, x2]; exact w
  · unfold rbLt; rw [ha 30 (by decide)]; exact l
theorem rb_house (hN : 201 ≤ N) (h : rbAll SX SN SK SR SV SG SD SE SM) :
    (¬ SX.1 10 < 6 ∧ f_X12_house N SM = some (-4, SM)) ∨
    (SX.1 10 < 6 ∧ ∃ (SR' : zRS) (SM' : zMS), f_X5_reads N SR = some (0, SR') ∧ f_X12_house N SM = some ((-10) - SR'.1 6, SM') ∧ rbAll SX SN SK (rSI SR' 5 0) SV SG SD SE SM') ∨
    (SX.1 10 < 6 ∧ ∃ (SR' : zRS) (SM' : zMS) (m k9 : Nat), f_X5_reads N SR = some (1, SR') ∧ f_X12_house N SM = some (SX.1 10, SM') ∧ SR'.1 8 = nI m ∧ m ≤ 10 ∧ SR'.1 7 = nI k9 ∧ k9 ≤ 100 ∧ ∀ u : Nat → Nat, (∀ x ∈ SE, x.1 200 ≠ u 200) → ∃ OH : zHS, f_X1_hold N SN (zQ0 (rSI SR' 5 0) (nI m) (nI k9)) (u 200) = some OH ∧ rbAll (rSI SX 10 (SX.1 10 + 1)) OH SK (rSI SR' 5 0) SV SG SD (SE ++ [(u, zQ0 (rSI SR' 5 0) (nI m) (nI k9))]) SM') := by
  obtain ⟨nT, nP, L, HS, a, b, c, d, ⟨n, n1, n2, n3, n4⟩, f, w, l⟩ := h
  obtain ⟨b1, b2, b3, b4⟩ := b
  obtain ⟨B, hB⟩ : ∃ B : Nat → Nat, ∀ i : Nat, i < n → SM.2.1 19 i = nI (B i) ∧ B i < 128 := ⟨fun i => (SM.2.1 19 i).toNatClampNeg, fun i hi => by
    obtain ⟨-, ch, h1, h2⟩ := n4 i hi
    show SM.2.1 19 i = nI (SM.2.1 19 i).toNatClampNeg ∧ (SM.2.1 19 i).toNatClampNeg < 128
    rw [h2, nI_clamp (by omega)]
    exact ⟨rfl, h1⟩⟩
  by_cases q : HS.length < 6
  · have q' : SX.1 10 < 6 := by rw [b2]; exact nI_lt (b := 6) q (by decide)
    have hT : rbTb n B SR := ⟨n1, fun i hi => by rw [(n4 i hi).1]; exact hB i hi⟩
    obtain ⟨SR', u1, u2, u3⟩ := rb_reads (N := N) hN hT n2
    obtain ⟨S3, v1, v2, v3, v4⟩ := m_text (N := N) hN l ⟨n1, n3, hB⟩ q
    have ok := pTx_ok (n := n) (B := B) 10 0 [] (Nat.zero_le _) (Nat.le_refl _) (fun _ h => by cases h) (Nat.zero_le _)
    obtain ⟨g1, g2, g3, g4, g5, g6⟩ := id v3
    have hm : f_X12_house N SM = kB ((if (pTx (rbBy n B) n 10 0 []).1 then (1 : Int32) else 0) = 0) (some ((-10) - (mSI S3 16 0).1 17, mSI S3 16 0)) (some ((mSI (mSI (mSI S3 16 0) 15 ((mSI S3 16 0).1 14)) 14 ((mSI (mSI S3 16 0) 15 ((mSI S3 16 0).1 14)).1 14 + 1)).1 15, mSI (mSI (mSI S3 16 0) 15 ((mSI S3 16 0).1 14)) 14 ((mSI (mSI S3 16 0) 15 ((mSI S3 16 0).1 14)).1 14 + 1))) := by
      unfold f_X12_house
      rw [b3, kB_n (nI_nk (w := HS.length) (k := 6) (v := 6) (by omega) rfl (by decide) (by omega)), v1, kD_p]
      rfl
    cases e : (pTx (rbBy n B) n 10 0 []).1 with
    | false =>
      rw [e, if_neg Bool.false_ne_true] at u1
      rw [e, if_neg Bool.false_ne_true, kB_00] at hm
      refine Or.inr (Or.inl ⟨q', SR', mSI S3 16 0, u1, ?_, ?_⟩)
      · rw [hm, mSI_o _ _ (by decide), v2, u2]
      · have b' : rbHs HS SX (mSI S3 16 0) SE := ⟨b1, b2, (g1 14 (by decide)).trans b3, fun f a Lf hf => by
          obtain ⟨u, Q, q1, q2, q3, q4, q5⟩ := b4 f a Lf hf
          exact ⟨u, Q, q1, q2, q3, rbMh.e (SM := S3) (SM' := mSI S3 16 0) rfl rfl rfl rfl rfl rfl (q4.g v3 (List.getElem?_eq_some_iff.mp hf).1), q5⟩⟩
        obtain ⟨e1, e2, e3, e4⟩ := a.l
        refine rb_hall (SN' := SN) (L' := L) (HS' := HS) a d f w l ?_ g2 g3 rfl rfl rfl (mSI_s _ _ _) rbSE.rf (fun _ _ _ => rfl) rfl rfl (fun _ _ h => h) b' (rbLk.w (fun _ _ h => h) (g1 15 (by decide)) c) e1 e2 e3 e4
        intro k hk
        rw [mSI_o _ _ (fun e => hk (by rw [e]; decide))]
        exact g1 k (fun e => hk (by simp only [List.mem_cons, List.not_mem_nil, or_false] at e ⊢; omega))
    | true =>
      rw [e, if_pos rfl] at u1
      rw [e, if_pos rfl, kB_10] at hm
      obtain ⟨k1, k2, k3⟩ := ok e
      have u3 := u3 e
      obtain ⟨v5, v6⟩ := v4 e
      have i14 : (mSI S3 16 0).1 14 = nI HS.length := (g1 14 (by decide)).trans b3
      generalize hcl : (pTx (rbBy n B) n 10 0 []).2.2 = cl at k1 k2 k3 u3 v5 v6
      have i14' : (mSI (mSI S3 16 0) 15 (nI HS.length)).1 14 = nI HS.length := (mSI_o _ _ (by decide)).trans i14
      rw [i14, i14', nI_1] at hm
      have hm : f_X12_house N SM = some (nI HS.length, mSI (mSI (mSI S3 16 0) 15 (nI HS.length)) 14 (nI (HS.length + 1))) := hm
      have hc : rbHC (cl.map rbCv) (zQ0 (rSI SR' 5 0) (nI cl.length) (nI (rbTks cl).length)) := (show rbHC (cl.map rbCv) (zQ0 SR' (nI cl.length) (nI (rbTks cl).length)) from rb_hc u3 k1 (by omega))
      have hwl := rb_wl k2
      refine Or.inr (Or.inr ⟨q', SR', mSI (mSI (mSI S3 16 0) 15 (nI HS.length)) 14 (nI (HS.length + 1)), cl.length, (rbTks cl).length, u1, by rw [hm, b2], u3.2.2.1, k1, u3.1.2.2.1, by omega, fun u hu => ?_⟩)
      obtain ⟨l1, l2⟩ := hlook_app (u := u) (Q := zQ0 (rSI SR' 5 0) (nI cl.length) (nI (rbTks cl).length)) (A := SE)
      have l3 := l2 hu
      unfold f_X1_hold
      simp only [kL_p]
      rw [rb_last (by omega) hc, kC_p, rb_last (by omega) hc, kC_p]
      refine ⟨_, rfl, ?_⟩
      have hlen : (HS ++ [(u 200, cl.map rbCv)]).length = HS.length + 1 := by
        rw [List.length_append]
        rfl
      have hnew : (HS ++ [(u 200, cl.map rbCv)])[HS.length]? = some (u 200, cl.map rbCv) := by
        rw [List.getElem?_append_right (Nat.le_refl _), Nat.sub_self]
        rfl
      refine rb_hall (L' := cl.map rbCv) (HS' := HS ++ [(u 200, cl.map rbCv)]) a d f w l ?_ g2 g3 rfl rfl rfl ?_ rbSE_app ?_ rfl rfl ?_ ?_ ?_ hwl ?_ ?_ ?_
      · intro k hk
        simp only [List.mem_cons, List.not_mem_nil, or_false, not_or] at hk
        rw [mSI_o _ _ hk.1, mSI_o _ _ hk.2.1, mSI_o _ _ hk.2.2.1]
        exact g1 k (fun e => by simp only [List.mem_cons, List.not_mem_nil, or_false] at e; omega)
      · rw [mSI_o _ _ (by decide), mSI_o _ _ (by decide), mSI_s]
      · intro k k18 k19
        show va_up (va_up SN.1 18 _) 19 _ k = SN.1 k
        rw [va_up_ne _ _ k19, va_up_ne _ _ k18]
      · intro f x hx
        have := (List.getElem?_eq_some_iff.mp hx).1
        rw [List.getElem?_append_left this]
        exact hx
      · refine ⟨by omega, ?_, by rw [mSI_s, hlen], fun f a Lf hf => ?_⟩
        · rw [hlen, ← nI_1, ← b2]
          rfl
        · by_cases c1 : f < HS.length
          · rw [List.getElem?_append_left c1] at hf
            obtain ⟨u', Q, q1, q2, q3, q4, q5⟩ := b4 f a Lf hf
            exact ⟨u', Q, l1 a _ q1, q2, q3, rbMh.e (SM := S3) (SM' := mSI (mSI (mSI S3 16 0) 15 (nI HS.length)) 14 (nI (HS.length + 1))) rfl rfl rfl rfl rfl rfl (q4.g v3 c1), q5⟩
          · have hlt := (List.getElem?_eq_some_iff.mp hf).1
            have : f = HS.length := by omega
            subst this
            rw [hnew] at hf
            cases hf
            refine ⟨u, _, l3, rfl, hc, ?_, hwl⟩
            refine ⟨q, ?_, by rw [List.length_map]; exact k1, rbMl_f (S := S3) (S1 := mSI (mSI (mSI S3 16 0) 15 (nI HS.length)) 14 (nI (HS.length + 1))) (fun _ _ => rfl) (fun _ _ _ => ⟨rfl, rfl, rfl, rfl⟩) v6⟩
            rw [List.length_map]
            exact v5
      · exact Or.inr ⟨HS.length, u 200, by rw [mSI_o _ _ (by decide), mSI_s], hnew, rfl⟩
      · exact Or.inr ⟨u 200, u, _, rfl, l3, rfl, hc⟩
      · rfl
      · rfl
  · have h6 : HS.length = 6 := by omega
    refine Or.inl ⟨?_, ?_⟩
    · rw [b2, h6]
      decide
    · unfold f_X12_house
      rw [b3, h6, kB_p (show nI 6 = (6 : Int32) from rfl)]
end RBHO
