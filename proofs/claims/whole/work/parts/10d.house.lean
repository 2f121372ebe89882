theorem z_len2 : f_J0_length_8abf5 2 = some 6 := by
  have h : f_J0_coder_7d493 2 = some 0 := by first | rfl | (unfold f_J0_coder_7d493; rfl)
  first
    | rfl
    | (unfold f_J0_length_8abf5 kO; rw [if_pos (by decide)]; show kC (f_J0_coder_7d493 2) _ = _; rw [h]; rfl)
def zQ0 (SR : zRS) (n k9 : Int32) : zQS := (fun j => if j = 0 then n.toNatClampNeg else if j = 1 then n.toNatClampNeg else if j = 2 then n.toNatClampNeg else if j = 3 then k9.toNatClampNeg else 6, fun j => if j = 0 then va_cpy (SR.2 2) (fun _ => 0) 0 0 n.toNatClampNeg else if j = 1 then va_cpy (SR.2 3) (fun _ => 0) 0 0 n.toNatClampNeg else if j = 2 then va_cpy (SR.2 4) (fun _ => 0) 0 0 n.toNatClampNeg else if j = 3 then va_cpy (SR.2 1) (fun _ => 0) 0 0 k9.toNatClampNeg else fun _ => 0)
def rm_X2_init : Room := { frames := 2, cells := 5, slots := 136, locals := 120 }
set_option maxHeartbeats 8000000 in
set_option maxRecDepth 100000 in
theorem c_X2_init {l : Launch} {G : va_G} {ct : Nat → ClassId} {adK adV : Nat → Nat} {tA : Nat} {q : Nat} {aR : Nat → Nat} {SR : zRS} {n k9 : Int32} (hn : n = (if (0 : Int32) < (if (10 : Int32) < (SR.1 8) then 10 else (SR.1 8)) then (if (10 : Int32) < (SR.1 8) then 10 else (SR.1 8)) else 0)) (hk9 : k9 = (if (0 : Int32) < (if (100 : Int32) < (SR.1 7) then 100 else (SR.1 7)) then (if (100 : Int32) < (SR.1 7) then 100 else (SR.1 7)) else 0)) (hn0 : ¬ n < 0) (hk0 : ¬ k9 < 0) (hn1 : n.toNatClampNeg ≤ 10) (hk1 : k9.toNatClampNeg ≤ 100) : zCX (zNE adK adV tA) l yX2_init cX2_init 4 (none) rm_X2_init G ct [.ref q, .ref (aR 200)] [[(q, .inr (2, [.null, .null, .null, .null, .null]))], wR aR ct SR] (fun v C1 => v = none ∧ ∃ u : Nat → Nat, u 200 = q ∧ C1 = [wQ u ct (zQ0 SR n k9), wR aR ct SR]) 5 (136) := by
  refine z_enterX (own := RX2) (lv := [(0, .ref q), (1, .ref (aR 200))]) (by decide) rfl (Nat.le_of_ble_eq_true rfl) rfl ?_
  intro p e s m args below meth c A E hr hnm hnest
  have hEnv : zEnv adK adV tA A s s.heap := hnest
  refine z_aload_n (pc := 0) (k0 := 0) E dX2_init_0 rfl rfl ?_
  refine z_objInit (pc := 1) E wd_25_3 ⟨(Nat.le_of_ble_eq_true rfl), (Nat.le_of_ble_eq_true rfl)⟩ dX2_init_1 ?_
  refine z_aload_n (pc := 4) (k0 := 0) E dX2_init_4 rfl rfl ?_
  refine z_ldcS (pc := 5) (q := adK 2) E hEnv.2.1.2.2.2.2 dX2_init_5 ?_
  refine z_callVE (pc := 7) (is := []) (Cc := []) (C1 := []) (n := 0) (As := []) (st := [.ref q]) (st' := [.int 6, .ref q]) (C2 := [[(q, .inr (2, [.null, .null, .null, .null, .null]))], wR aR ct SR]) E hEnv (c_J0_length_8abf5 (adK := adK) (adV := adV) (tA := tA) (l := l) (G := G) (ct := ct) (i0 := 2) (r0 := 6) z_len2) wv_J0_length_8abf5 wd_25_16 ⟨(Nat.le_of_ble_eq_true rfl), (Nat.le_of_ble_eq_true rfl), (Nat.le_of_ble_eq_true rfl), (Nat.le_of_ble_eq_true rfl)⟩ rfl rfl rfl (by decide) rfl rfl (z_strr hEnv (by decide)) rfl (Nat.le_of_ble_eq_true rfl) dX2_init_7 rfl rfl ?_
  refine z_newi (pc := 10) (N' := 6) E (by decide) (by decide) (Nat.le_of_ble_eq_true rfl) (Nat.le_of_ble_eq_true rfl) (by show 0 + 6 ≤ 136; omega) dX2_init_10 (fun w1 => ?_)
  show zJ p l e rm_X2_init s m args below meth c (MQ below (zQX G ct (fun v C1 => v = none ∧ ∃ u : Nat → Nat, u 200 = q ∧ C1 = [wQ u ct (zQ0 SR n k9), wR aR ct SR]) A) args s 5 (136) A) A G 4 1 (6) [[(q, .inr (2, [.null, .null, .null, .null, .null]))], wR aR ct SR, [(w1, .inl (ct 0, 6, .inl (fun _ => 0)))]] [(0, .ref q), (1, .ref (aR 200))] 12 [.ref w1, .ref q]
  refine z_putF (pc := 12) (i := 0) (j := 0) E inlX2 tyX2 tyX2_ok nmX2 rfl rfl rfl 4 (by decide) wd_14_14 (fun _ h => h) rfl hnm rfl (ty := .array .int) (by decide +kernel) rfl rfl (Nat.le_of_ble_eq_true rfl) rfl dX2_init_12 ?_
  show zJ p l e rm_X2_init s m args below meth c (MQ below (zQX G ct (fun v C1 => v = none ∧ ∃ u : Nat → Nat, u 200 = q ∧ C1 = [wQ u ct (zQ0 SR n k9), wR aR ct SR]) A) args s 5 (136) A) A G 4 1 (6) [[(q, .inr (2, [.null, .null, .null, .null, .ref w1]))], wR aR ct SR, [(w1, .inl (ct 0, 6, .inl (fun _ => 0)))]] [(0, .ref q), (1, .ref (aR 200))] 15 []
  refine z_iconst (pc := 15) (v := 0) E dX2_init_15 (by decide) ?_
  refine z_aload_n (pc := 16) (k0 := 1) E dX2_init_16 rfl rfl ?_
  refine gR_8 (pc := 17) (i := 1) E rfl wd_25_4 dX2_init_17 ?_
  refine z_bipush (pc := 20) (v := 10) E dX2_init_20 (by decide) ?_
  refine z_mmin (pc := 22) (v := (if (10 : Int32) < (SR.1 8) then 10 else (SR.1 8))) E wd_25_5 wd_22_12 wd_22_9 wd_22_13 ⟨(Nat.le_of_ble_eq_true rfl), (Nat.le_of_ble_eq_true rfl), (Nat.le_of_ble_eq_true rfl), (Nat.le_of_ble_eq_true rfl)⟩ rfl dX2_init_22 ?_
  refine z_mmax (pc := 25) (v := n) E wd_25_6 wd_22_8 wd_22_9 wd_22_10 ⟨(Nat.le_of_ble_eq_true rfl), (Nat.le_of_ble_eq_true rfl), (Nat.le_of_ble_eq_true rfl), (Nat.le_of_ble_eq_true rfl)⟩ hn dX2_init_25 ?_
  refine z_istore_n (pc := 28) (lv' := [(2, .int n), (0, .ref q), (1, .ref (aR 200))]) E dX2_init_28 rfl (by decide) rfl ?_
  refine z_iconst (pc := 29) (v := 0) E dX2_init_29 (by decide) ?_
  refine z_aload_n (pc := 30) (k0 := 2) E dX2_init_30 rfl rfl ?_
  refine gR_7 (pc := 31) (i := 1) E rfl wd_25_7 dX2_init_31 ?_
  refine z_bipush (pc := 34) (v := 100) E dX2_init_34 (by decide) ?_
  refine z_mmin (pc := 36) (v := (if (100 : Int32) < (SR.1 7) then 100 else (SR.1 7))) E wd_25_5 wd_22_12 wd_22_9 wd_22_13 ⟨(Nat.le_of_ble_eq_true rfl), (Nat.le_of_ble_eq_true rfl), (Nat.le_of_ble_eq_true rfl), (Nat.le_of_ble_eq_true rfl)⟩ rfl dX2_init_36 ?_
  refine z_mmax (pc := 39) (v := k9) E wd_25_6 wd_22_8 wd_22_9 wd_22_10 ⟨(Nat.le_of_ble_eq_true rfl), (Nat.le_of_ble_eq_true rfl), (Nat.le_of_ble_eq_true rfl), (Nat.le_of_ble_eq_true rfl)⟩ hk9 dX2_init_39 ?_
  refine z_istore_n (pc := 42) (lv' := [(3, .int k9), (2, .int n), (0, .ref q), (1, .ref (aR 200))]) E dX2_init_42 rfl (by decide) rfl ?_
  refine z_aload_n (pc := 43) (k0 := 2) E dX2_init_43 rfl rfl ?_
  refine z_iload_n (pc := 44) (k0 := 1) E dX2_init_44 rfl rfl ?_
  refine z_newi (pc := 45) (N' := n.toNatClampNeg) E hn0 rfl (by omega) (Nat.le_of_ble_eq_true rfl) (by show 6 + n.toNatClampNeg ≤ 136; omega) dX2_init_45 (fun w2 => ?_)
  refine z_more (c2 := 2) (s2 := 16) (Nat.le_refl _) (by omega) ?_
  show zJ p l e rm_X2_init s m args below meth c (MQ below (zQX G ct (fun v C1 => v = none ∧ ∃ u : Nat → Nat, u 200 = q ∧ C1 = [wQ u ct (zQ0 SR n k9), wR aR ct SR]) A) args s 5 (136) A) A G 4 2 (16) [[(q, .inr (2, [.null, .null, .null, .null, .ref w1]))], wR aR ct SR, [(w1, .inl (ct 0, 6, .inl (fun _ => 0)))], [(w2, .inl (ct 0, n.toNatClampNeg, .inl (fun _ => 0)))]] [(3, .int k9), (2, .int n), (0, .ref q), (1, .ref (aR 200))] 47 [.ref w2, .ref q]
  refine z_putF (pc := 47) (i := 0) (j := 0) E inlX2 tyX2 tyX2_ok nmX2 rfl rfl rfl 0 (by decide) wd_15_1 (fun _ h => h) rfl hnm rfl (ty := .array .int) (by decide +kernel) rfl rfl (Nat.le_of_ble_eq_true rfl) rfl dX2_init_47 ?_
  show zJ p l e rm_X2_init s m args below meth c (MQ below (zQX G ct (fun v C1 => v = none ∧ ∃ u : Nat → Nat, u 200 = q ∧ C1 = [wQ u ct (zQ0 SR n k9), wR aR ct SR]) A) args s 5 (136) A) A G 4 2 (16) [[(q, .inr (2, [.ref w2, .null, .null, .null, .ref w1]))], wR aR ct SR, [(w1, .inl (ct 0, 6, .inl (fun _ => 0)))], [(w2, .inl (ct 0, n.toNatClampNeg, .inl (fun _ => 0)))]] [(3, .int k9), (2, .int n), (0, .ref q), (1, .ref (aR 200))] 50 []
  refine z_aload_n (pc := 50) (k0 := 2) E dX2_init_50 rfl rfl ?_
  refine z_iload_n (pc := 51) (k0 := 1) E dX2_init_51 rfl rfl ?_
  refine z_newi (pc := 52) (N' := n.toNatClampNeg) E hn0 rfl (by omega) (Nat.le_of_ble_eq_true rfl) (by show 16 + n.toNatClampNeg ≤ 136; omega) dX2_init_52 (fun w3 => ?_)
  refine z_more (c2 := 3) (s2 := 26) (Nat.le_refl _) (by omega) ?_
  show zJ p l e rm_X2_init s m args below meth c (MQ below (zQX G ct (fun v C1 => v = none ∧ ∃ u : Nat → Nat, u 200 = q ∧ C1 = [wQ u ct (zQ0 SR n k9), wR aR ct SR]) A) args s 5 (136) A) A G 4 3 (26) [[(q, .inr (2, [.ref w2, .null, .null, .null, .ref w1]))], wR aR ct SR, [(w1, .inl (ct 0, 6, .inl (fun _ => 0)))], [(w2, .inl (ct 0, n.toNatClampNeg, .inl (fun _ => 0)))], [(w3, .inl (ct 0, n.toNatClampNeg, .inl (fun _ => 0)))]] [(3, .int k9), (2, .int n), (0, .ref q), (1, .ref (aR 200))] 54 [.ref w3, .ref q]
  refine z_putF (pc := 54) (i := 0) (j := 0) E inlX2 tyX2 tyX2_ok nmX2 rfl rfl rfl 1 (by decide) wd_15_3 (fun _ h => h) rfl hnm rfl (ty := .array .int) (by decide +kernel) rfl rfl (Nat.le_of_ble_eq_true rfl) rfl dX2_init_54 ?_
  show zJ p l e rm_X2_init s m args below meth c (MQ below (zQX G ct (fun v C1 => v = none ∧ ∃ u : Nat → Nat, u 200 = q ∧ C1 = [wQ u ct (zQ0 SR n k9), wR aR ct SR]) A) args s 5 (136) A) A G 4 3 (26) [[(q, .inr (2, [.ref w2, .ref w3, .null, .null, .ref w1]))], wR aR ct SR, [(w1, .inl (ct 0, 6, .inl (fun _ => 0)))], [(w2, .inl (ct 0, n.toNatClampNeg, .inl (fun _ => 0)))], [(w3, .inl (ct 0, n.toNatClampNeg, .inl (fun _ => 0)))]] [(3, .int k9), (2, .int n), (0, .ref q), (1, .ref (aR 200))] 57 []
  refine z_aload_n (pc := 57) (k0 := 2) E dX2_init_57 rfl rfl ?_
  refine z_iload_n (pc := 58) (k0 := 1) E dX2_init_58 rfl rfl ?_
  refine z_newi (pc := 59) (N' := n.toNatClampNeg) E hn0 rfl (by omega) (Nat.le_of_ble_eq_true rfl) (by show 26 + n.toNatClampNeg ≤ 136; omega) dX2_init_59 (fun w4 => ?_)
  refine z_more (c2 := 4) (s2 := 36) (Nat.le_refl _) (by omega) ?_
  show zJ p l e rm_X2_init s m args below meth c (MQ below (zQX G ct (fun v C1 => v = none ∧ ∃ u : Nat → Nat, u 200 = q ∧ C1 = [wQ u ct (zQ0 SR n k9), wR aR ct SR]) A) args s 5 (136) A) A G 4 4 (36) [[(q, .inr (2, [.ref w2, .ref w3, .null, .null, .ref w1]))], wR aR ct SR, [(w1, .inl (ct 0, 6, .inl (fun _ => 0)))], [(w2, .inl (ct 0, n.toNatClampNeg, .inl (fun _ => 0)))], [(w3, .inl (ct 0, n.toNatClampNeg, .inl (fun _ => 0)))], [(w4, .inl (ct 0, n.toNatClampNeg, .inl (fun _ => 0)))]] [(3, .int k9), (2, .int n), (0, .ref q), (1, .ref (aR 200))] 61 [.ref w4, .ref q]
  refine z_putF (pc := 61) (i := 0) (j := 0) E inlX2 tyX2 tyX2_ok nmX2 rfl rfl rfl 2 (by decide) wd_15_2 (fun _ h => h) rfl hnm rfl (ty := .array .int) (by decide +kernel) rfl rfl (Nat.le_of_ble_eq_true rfl) rfl dX2_init_61 ?_
  show zJ p l e rm_X2_init s m args below meth c (MQ below (zQX G ct (fun v C1 => v = none ∧ ∃ u : Nat → Nat, u 200 = q ∧ C1 = [wQ u ct (zQ0 SR n k9), wR aR ct SR]) A) args s 5 (136) A) A G 4 4 (36) [[(q, .inr (2, [.ref w2, .ref w3, .ref w4, .null, .ref w1]))], wR aR ct SR, [(w1, .inl (ct 0, 6, .inl (fun _ => 0)))], [(w2, .inl (ct 0, n.toNatClampNeg, .inl (fun _ => 0)))], [(w3, .inl (ct 0, n.toNatClampNeg, .inl (fun _ => 0)))], [(w4, .inl (ct 0, n.toNatClampNeg, .inl (fun _ => 0)))]] [(3, .int k9), (2, .int n), (0, .ref q), (1, .ref (aR 200))] 64 []
  refine z_aload_n (pc := 64) (k0 := 2) E dX2_init_64 rfl rfl ?_
  refine z_iload_n (pc := 65) (k0 := 0) E dX2_init_65 rfl rfl ?_
  refine z_newi (pc := 66) (N' := k9.toNatClampNeg) E hk0 rfl (by omega) (Nat.le_of_ble_eq_true rfl) (by show 36 + k9.toNatClampNeg ≤ 136; omega) dX2_init_66 (fun w5 => ?_)
  refine z_more (c2 := 5) (s2 := 136) (Nat.le_refl _) (by omega) ?_
  show zJ p l e rm_X2_init s m args below meth c (MQ below (zQX G ct (fun v C1 => v = none ∧ ∃ u : Nat → Nat, u 200 = q ∧ C1 = [wQ u ct (zQ0 SR n k9), wR aR ct SR]) A) args s 5 (136) A) A G 4 5 (136) [[(q, .inr (2, [.ref w2, .ref w3, .ref w4, .null, .ref w1]))], wR aR ct SR, [(w1, .inl (ct 0, 6, .inl (fun _ => 0)))], [(w2, .inl (ct 0, n.toNatClampNeg, .inl (fun _ => 0)))], [(w3, .inl (ct 0, n.toNatClampNeg, .inl (fun _ => 0)))], [(w4, .inl (ct 0, n.toNatClampNeg, .inl (fun _ => 0)))], [(w5, .inl (ct 0, k9.toNatClampNeg, .inl (fun _ => 0)))]] [(3, .int k9), (2, .int n), (0, .ref q), (1, .ref (aR 200))] 68 [.ref w5, .ref q]
  refine z_putF (pc := 68) (i := 0) (j := 0) E inlX2 tyX2 tyX2_ok nmX2 rfl rfl rfl 3 (by decide) wd_15_8 (fun _ h => h) rfl hnm rfl (ty := .array .int) (by decide +kernel) rfl rfl (Nat.le_of_ble_eq_true rfl) rfl dX2_init_68 ?_
  show zJ p l e rm_X2_init s m args below meth c (MQ below (zQX G ct (fun v C1 => v = none ∧ ∃ u : Nat → Nat, u 200 = q ∧ C1 = [wQ u ct (zQ0 SR n k9), wR aR ct SR]) A) args s 5 (136) A) A G 4 5 (136) [[(q, .inr (2, [.ref w2, .ref w3, .ref w4, .ref w5, .ref w1]))], wR aR ct SR, [(w1, .inl (ct 0, 6, .inl (fun _ => 0)))], [(w2, .inl (ct 0, n.toNatClampNeg, .inl (fun _ => 0)))], [(w3, .inl (ct 0, n.toNatClampNeg, .inl (fun _ => 0)))], [(w4, .inl (ct 0, n.toNatClampNeg, .inl (fun _ => 0)))], [(w5, .inl (ct 0, k9.toNatClampNeg, .inl (fun _ => 0)))]] [(3, .int k9), (2, .int n), (0, .ref q), (1, .ref (aR 200))] 71 []
  refine z_aload_n (pc := 71) (k0 := 3) E dX2_init_71 rfl rfl ?_
  refine gR_2 (pc := 72) (i := 1) E rfl wd_25_8 dX2_init_72 ?_
  refine z_iconst (pc := 75) (v := 0) E dX2_init_75 (by decide) ?_
  refine z_aload_n (pc := 76) (k0 := 2) E dX2_init_76 rfl rfl ?_
  refine z_get (pc := 77) (i := 0) E inlX2 rfl rfl (j := 0) rfl 0 (by decide) wd_15_1 (fun _ h => h) rfl dX2_init_77 ?_
  refine z_iconst (pc := 80) (v := 0) E dX2_init_80 (by decide) ?_
  refine z_iload_n (pc := 81) (k0 := 1) E dX2_init_81 rfl rfl ?_
  refine z_copyi (pc := 82) (i0 := 1) (j0 := 3) (i1 := 3) (j1 := 0) (w2 := [(w2, .inl (ct 0, n.toNatClampNeg, .inl (va_cpy (SR.2 2) (fun _ => 0) 0 0 n.toNatClampNeg)))]) E wd_25_9 wd_25_10 wd_25_11 wd_25_12 rfl rfl rfl rfl (by decide) (by decide) hn0 (by show 0 + n.toNatClampNeg ≤ 10; omega) (by show 0 + n.toNatClampNeg ≤ n.toNatClampNeg; omega) rfl ⟨(Nat.le_of_ble_eq_true rfl), (Nat.le_of_ble_eq_true rfl)⟩ dX2_init_82 ?_
  show zJ p l e rm_X2_init s m args below meth c (MQ below (zQX G ct (fun v C1 => v = none ∧ ∃ u : Nat → Nat, u 200 = q ∧ C1 = [wQ u ct (zQ0 SR n k9), wR aR ct SR]) A) args s 5 (136) A) A G 4 5 (136) [[(q, .inr (2, [.ref w2, .ref w3, .ref w4, .ref w5, .ref w1]))], wR aR ct SR, [(w1, .inl (ct 0, 6, .inl (fun _ => 0)))], [(w2, .inl (ct 0, n.toNatClampNeg, .inl (va_cpy (SR.2 2) (fun _ => 0) 0 0 n.toNatClampNeg)))], [(w3, .inl (ct 0, n.toNatClampNeg, .inl (fun _ => 0)))], [(w4, .inl (ct 0, n.toNatClampNeg, .inl (fun _ => 0)))], [(w5, .inl (ct 0, k9.toNatClampNeg, .inl (fun _ => 0)))]] [(3, .int k9), (2, .int n), (0, .ref q), (1, .ref (aR 200))] 85 []
  refine z_aload_n (pc := 85) (k0 := 3) E dX2_init_85 rfl rfl ?_
  refine gR_3 (pc := 86) (i := 1) E rfl wd_25_13 dX2_init_86 ?_
  refine z_iconst (pc := 89) (v := 0) E dX2_init_89 (by decide) ?_
  refine z_aload_n (pc := 90) (k0 := 2) E dX2_init_90 rfl rfl ?_
  refine z_get (pc := 91) (i := 0) E inlX2 rfl rfl (j := 0) rfl 1 (by decide) wd_15_3 (fun _ h => h) rfl dX2_init_91 ?_
  refine z_iconst (pc := 94) (v := 0) E dX2_init_94 (by decide) ?_
  refine z_iload_n (pc := 95) (k0 := 1) E dX2_init_95 rfl rfl ?_
  refine z_copyi (pc := 96) (i0 := 1) (j0 := 4) (i1 := 4) (j1 := 0) (w2 := [(w3, .inl (ct 0, n.toNatClampNeg, .inl (va_cpy (SR.2 3) (fun _ => 0) 0 0 n.toNatClampNeg)))]) E wd_25_9 wd_25_10 wd_25_11 wd_25_12 rfl rfl rfl rfl (by decide) (by decide) hn0 (by show 0 + n.toNatClampNeg ≤ 10; omega) (by show 0 + n.toNatClampNeg ≤ n.toNatClampNeg; omega) rfl ⟨(Nat.le_of_ble_eq_true rfl), (Nat.le_of_ble_eq_true rfl)⟩ dX2_init_96 ?_
  show zJ p l e rm_X2_init s m args below meth c (MQ below (zQX G ct (fun v C1 => v = none ∧ ∃ u : Nat → Nat, u 200 = q ∧ C1 = [wQ u ct (zQ0 SR n k9), wR aR ct SR]) A) args s 5 (136) A) A G 4 5 (136) [[(q, .inr (2, [.ref w2, .ref w3, .ref w4, .ref w5, .ref w1]))], wR aR ct SR, [(w1, .inl (ct 0, 6, .inl (fun _ => 0)))], [(w2, .inl (ct 0, n.toNatClampNeg, .inl (va_cpy (SR.2 2) (fun _ => 0) 0 0 n.toNatClampNeg)))], [(w3, .inl (ct 0, n.toNatClampNeg, .inl (va_cpy (SR.2 3) (fun _ => 0) 0 0 n.toNatClampNeg)))], [(w4, .inl (ct 0, n.toNatClampNeg, .inl (fun _ => 0)))], [(w5, .inl (ct 0, k9.toNatClampNeg, .inl (fun _ => 0)))]] [(3, .int k9), (2, .int n), (0, .ref q), (1, .ref (aR 200))] 99 []
  refine z_aload_n (pc := 99) (k0 := 3) E dX2_init_99 rfl rfl ?_
  refine gR_4 (pc := 100) (i := 1) E rfl wd_25_14 dX2_init_100 ?_
  refine z_iconst (pc := 103) (v := 0) E dX2_init_103 (by decide) ?_
  refine z_aload_n (pc := 104) (k0 := 2) E dX2_init_104 rfl rfl ?_
  refine z_get (pc := 105) (i := 0) E inlX2 rfl rfl (j := 0) rfl 2 (by decide) wd_15_2 (fun _ h => h) rfl dX2_init_105 ?_
  refine z_iconst (pc := 108) (v := 0) E dX2_init_108 (by decide) ?_
  refine z_iload_n (pc := 109) (k0 := 1) E dX2_init_109 rfl rfl ?_
  refine z_copyi (pc := 110) (i0 := 1) (j0 := 5) (i1 := 5) (j1 := 0) (w2 := [(w4, .inl (ct 0, n.toNatClampNeg, .inl (va_cpy (SR.2 4) (fun _ => 0) 0 0 n.toNatClampNeg)))]) E wd_25_9 wd_25_10 wd_25_11 wd_25_12 rfl rfl rfl rfl (by decide) (by decide) hn0 (by show 0 + n.toNatClampNeg ≤ 10; omega) (by show 0 + n.toNatClampNeg ≤ n.toNatClampNeg; omega) rfl ⟨(Nat.le_of_ble_eq_true rfl), (Nat.le_of_ble_eq_true rfl)⟩ dX2_init_110 ?_
  show zJ p l e rm_X2_init s m args below meth c (MQ below (zQX G ct (fun v C1 => v = none ∧ ∃ u : Nat → Nat, u 200 = q ∧ C1 = [wQ u ct (zQ0 SR n k9), wR aR ct SR]) A) args s 5 (136) A) A G 4 5 (136) [[(q, .inr (2, [.ref w2, .ref w3, .ref w4, .ref w5, .ref w1]))], wR aR ct SR, [(w1, .inl (ct 0, 6, .inl (fun _ => 0)))], [(w2, .inl (ct 0, n.toNatClampNeg, .inl (va_cpy (SR.2 2) (fun _ => 0) 0 0 n.toNatClampNeg)))], [(w3, .inl (ct 0, n.toNatClampNeg, .inl (va_cpy (SR.2 3) (fun _ => 0) 0 0 n.toNatClampNeg)))], [(w4, .inl (ct 0, n.toNatClampNeg, .inl (va_cpy (SR.2 4) (fun _ => 0) 0 0 n.toNatClampNeg)))], [(w5, .inl (ct 0, k9.toNatClampNeg, .inl (fun _ => 0)))]] [(3, .int k9), (2, .int n), (0, .ref q), (1, .ref (aR 200))] 113 []
  refine z_aload_n (pc := 113) (k0 := 3) E dX2_init_113 rfl rfl ?_
  refine gR_1 (pc := 114) (i := 1) E rfl wd_25_15 dX2_init_114 ?_
  refine z_iconst (pc := 117) (v := 0) E dX2_init_117 (by decide) ?_
  refine z_aload_n (pc := 118) (k0 := 2) E dX2_init_118 rfl rfl ?_
  refine z_get (pc := 119) (i := 0) E inlX2 rfl rfl (j := 0) rfl 3 (by decide) wd_15_8 (fun _ h => h) rfl dX2_init_119 ?_
  refine z_iconst (pc := 122) (v := 0) E dX2_init_122 (by decide) ?_
  refine z_iload_n (pc := 123) (k0 := 0) E dX2_init_123 rfl rfl ?_
  refine z_copyi (pc := 124) (i0 := 1) (j0 := 2) (i1 := 6) (j1 := 0) (w2 := [(w5, .inl (ct 0, k9.toNatClampNeg, .inl (va_cpy (SR.2 1) (fun _ => 0) 0 0 k9.toNatClampNeg)))]) E wd_25_9 wd_25_10 wd_25_11 wd_25_12 rfl rfl rfl rfl (by decide) (by decide) hk0 (by show 0 + k9.toNatClampNeg ≤ 100; omega) (by show 0 + k9.toNatClampNeg ≤ k9.toNatClampNeg; omega) rfl ⟨(Nat.le_of_ble_eq_true rfl), (Nat.le_of_ble_eq_true rfl)⟩ dX2_init_124 ?_
  show zJ p l e rm_X2_init s m args below meth c (MQ below (zQX G ct (fun v C1 => v = none ∧ ∃ u : Nat → Nat, u 200 = q ∧ C1 = [wQ u ct (zQ0 SR n k9), wR aR ct SR]) A) args s 5 (136) A) A G 4 5 (136) [[(q, .inr (2, [.ref w2, .ref w3, .ref w4, .ref w5, .ref w1]))], wR aR ct SR, [(w1, .inl (ct 0, 6, .inl (fun _ => 0)))], [(w2, .inl (ct 0, n.toNatClampNeg, .inl (va_cpy (SR.2 2) (fun _ => 0) 0 0 n.toNatClampNeg)))], [(w3, .inl (ct 0, n.toNatClampNeg, .inl (va_cpy (SR.2 3) (fun _ => 0) 0 0 n.toNatClampNeg)))], [(w4, .inl (ct 0, n.toNatClampNeg, .inl (va_cpy (SR.2 4) (fun _ => 0) 0 0 n.toNatClampNeg)))], [(w5, .inl (ct 0, k9.toNatClampNeg, .inl (va_cpy (SR.2 1) (fun _ => 0) 0 0 k9.toNatClampNeg)))]] [(3, .int k9), (2, .int n), (0, .ref q), (1, .ref (aR 200))] 127 []
  refine z_pick (Cs' := [[(q, .inr (2, [.ref w2, .ref w3, .ref w4, .ref w5, .ref w1]))], [(w2, .inl (ct 0, n.toNatClampNeg, .inl (va_cpy (SR.2 2) (fun _ => 0) 0 0 n.toNatClampNeg)))], [(w3, .inl (ct 0, n.toNatClampNeg, .inl (va_cpy (SR.2 3) (fun _ => 0) 0 0 n.toNatClampNeg)))], [(w4, .inl (ct 0, n.toNatClampNeg, .inl (va_cpy (SR.2 4) (fun _ => 0) 0 0 n.toNatClampNeg)))], [(w5, .inl (ct 0, k9.toNatClampNeg, .inl (va_cpy (SR.2 1) (fun _ => 0) 0 0 k9.toNatClampNeg)))], [(w1, .inl (ct 0, 6, .inl (fun _ => 0)))], wR aR ct SR]) [0, 3, 4, 5, 6, 2, 1] rfl rfl ?_
  refine z_world (Cs' := [wQ (zad [w2, w3, w4, w5, w1] q) ct (zQ0 SR n k9), wR aR ct SR]) rfl ?_
  exact z_vretX E hr ⟨rfl, (zad [w2, w3, w4, w5, w1] q), rfl, rfl⟩ dX2_init_127
