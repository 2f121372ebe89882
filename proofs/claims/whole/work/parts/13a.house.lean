/-! the house that a text makes -/
def rm_X11_house : Room := { frames := 23, cells := 6, slots := 141, locals := 604 }
theorem wv_X11_house : zWV RX11 yX11_house cX11_house 2 (some .int) 0 := ⟨wd_18_8, wd_18_9, wd_1_2, wd_18_10, by decide +kernel⟩
set_option maxHeartbeats 8000000 in
set_option maxRecDepth 100000 in
theorem c_X11_house_r0 {l : Launch} {G : va_G} {ct : Nat → ClassId} {adK adV : Nat → Nat} {tA : Nat} {aX aN aK aT aR aV : Nat → Nat} {gG gY gZ : Nat} {SX : zRS} {SN : zHS} {SR SR1 : zRS} {SE : List ((Nat → Nat) × zQS)} {N : Nat} (h1 : ¬ SX.1 10 < 6) : zCX (zNE adK adV tA) l yX11_house cX11_house 2 (some .int) rm_X11_house G ct [.ref (aX 200)] [wX aX (aN 200) (aK 200) (aT 200) (aR 200) (aV 6) gG gY gZ ct SX, wH aN ct SN, wR aR ct SR, wDh ct SE] (fun v C1 => v = some (.int (-4)) ∧ C1 = [wX aX (aN 200) (aK 200) (aT 200) (aR 200) (aV 6) gG gY gZ ct SX, wH aN ct SN, wR aR ct SR, wDh ct SE]) 6 141 := by
  refine z_enterX (own := RX11) (lv := [(0, .ref (aX 200))]) (by decide) rfl (Nat.le_of_ble_eq_true rfl) rfl ?_
  intro p e s m args below meth c A E hr hnm hnest
  have hEnv : zEnv adK adV tA A s s.heap := hnest
  refine z_aload_n (pc := 0) (k0 := 0) E dX11_house_0 rfl rfl ?_
  refine gX_10 (pc := 1) (i := 0) E rfl wd_18_11 dX11_house_1 ?_
  refine z_bipush (pc := 4) (v := 6) E dX11_house_4 (by decide) ?_
  refine z_icmp_lt (pc := 6) (tgt := 12) E dX11_house_6 (by decide) (fun cc => absurd cc h1) (fun _ => ?_)
  refine z_bipush (pc := 9) (v := (-4)) E dX11_house_9 (by decide) ?_
  refine z_more (c2 := 6) (s2 := 141) (Nat.le_of_ble_eq_true rfl) (Nat.le_of_ble_eq_true rfl) ?_
  exact z_iretX E hr ⟨rfl, rfl⟩ dX11_house_11
set_option maxHeartbeats 8000000 in
set_option maxRecDepth 100000 in
theorem c_X11_house_r1 {l : Launch} {G : va_G} {ct : Nat → ClassId} {adK adV : Nat → Nat} {tA : Nat} {aX aN aK aT aR aV : Nat → Nat} {gG gY gZ : Nat} {SX : zRS} {SN : zHS} {SR SR1 : zRS} {SE : List ((Nat → Nat) × zQS)} {N : Nat} (h1 : SX.1 10 < 6) (hf : f_X5_reads N SR = some (0, SR1)) : zCX (zNE adK adV tA) l yX11_house cX11_house 2 (some .int) rm_X11_house G ct [.ref (aX 200)] [wX aX (aN 200) (aK 200) (aT 200) (aR 200) (aV 6) gG gY gZ ct SX, wH aN ct SN, wR aR ct SR, wDh ct SE] (fun v C1 => v = some (.int ((-10) - SR1.1 6)) ∧ C1 = [wX aX (aN 200) (aK 200) (aT 200) (aR 200) (aV 6) gG gY gZ ct SX, wH aN ct SN, wR aR ct (rSI SR1 5 0), wDh ct SE]) 6 141 := by
  refine z_enterX (own := RX11) (lv := [(0, .ref (aX 200))]) (by decide) rfl (Nat.le_of_ble_eq_true rfl) rfl ?_
  intro p e s m args below meth c A E hr hnm hnest
  have hEnv : zEnv adK adV tA A s s.heap := hnest
  refine z_aload_n (pc := 0) (k0 := 0) E dX11_house_0 rfl rfl ?_
  refine gX_10 (pc := 1) (i := 0) E rfl wd_18_11 dX11_house_1 ?_
  refine z_bipush (pc := 4) (v := 6) E dX11_house_4 (by decide) ?_
  refine z_icmp_lt (pc := 6) (tgt := 12) E dX11_house_6 (by decide) (fun _ => ?_) (fun cc => absurd h1 cc)
  refine z_aload_n (pc := 12) (k0 := 0) E dX11_house_12 rfl rfl ?_
  refine gX_3 (pc := 13) (i := 0) E rfl wd_2_1 dX11_house_13 ?_
  refine z_callVE (pc := 16) (is := [2]) (n := 0) (As := []) (st := []) (st' := [.int 0]) (C2 := [wX aX (aN 200) (aK 200) (aT 200) (aR 200) (aV 6) gG gY gZ ct SX, wH aN ct SN, wR aR ct SR1, wDh ct SE]) E hEnv (c_X5_reads (adK := adK) (adV := adV) (tA := tA) (l := l) (G := G) (ct := ct) (aR := aR) hf) wv_X5_reads wd_18_15 ⟨(Nat.le_of_ble_eq_true rfl), (Nat.le_of_ble_eq_true rfl), (Nat.le_of_ble_eq_true rfl), (Nat.le_of_ble_eq_true rfl)⟩ rfl rfl rfl (by decide) rfl rfl (z_rdr (i := 2) E rfl) rfl (Nat.le_of_ble_eq_true rfl) dX11_house_16 rfl rfl ?_
  refine z_istore_n (pc := 19) (lv' := [(1, .int 0), (0, .ref (aX 200))]) E dX11_house_19 rfl (by decide) rfl ?_
  refine z_aload_n (pc := 20) (k0 := 1) E dX11_house_20 rfl rfl ?_
  refine gX_3 (pc := 21) (i := 0) E rfl wd_2_1 dX11_house_21 ?_
  refine z_iconst (pc := 24) (v := 0) E dX11_house_24 (by decide) ?_
  refine pR_5 (pc := 25) (i := 2) (S1 := rSI SR1 5 0) E rfl rfl wd_18_1 dX11_house_25 ?_
  refine z_world (Cs' := [wX aX (aN 200) (aK 200) (aT 200) (aR 200) (aV 6) gG gY gZ ct SX, wH aN ct SN, wR aR ct (rSI SR1 5 0), wDh ct SE]) rfl ?_
  refine z_iload_n (pc := 28) (k0 := 0) E dX11_house_28 rfl rfl ?_
  refine z_if_ne (pc := 29) (tgt := 43) E dX11_house_29 (by decide) (fun cc => absurd rfl cc) (fun _ => ?_)
  refine z_bipush (pc := 32) (v := (-10)) E dX11_house_32 (by decide) ?_
  refine z_aload_n (pc := 34) (k0 := 1) E dX11_house_34 rfl rfl ?_
  refine gX_3 (pc := 35) (i := 0) E rfl wd_2_1 dX11_house_35 ?_
  refine gR_6 (pc := 38) (i := 2) E rfl wd_18_12 dX11_house_38 ?_
  refine z_isub (pc := 41) (v := (-10) - SR1.1 6) E dX11_house_41 rfl ?_
  refine z_more (c2 := 6) (s2 := 141) (Nat.le_of_ble_eq_true rfl) (Nat.le_of_ble_eq_true rfl) ?_
  exact z_iretX E hr ⟨rfl, rfl⟩ dX11_house_42
set_option maxHeartbeats 8000000 in
set_option maxRecDepth 100000 in
theorem c_X11_house {l : Launch} {G : va_G} {ct : Nat → ClassId} {adK adV : Nat → Nat} {tA : Nat} {aX aN aK aT aR aV : Nat → Nat} {gG gY gZ : Nat} {SX : zRS} {SN : zHS} {SR SR1 : zRS} {SE : List ((Nat → Nat) × zQS)} {N : Nat} {n k9 : Int32} (h1 : SX.1 10 < 6) (hf : f_X5_reads N SR = some (1, SR1)) (hn : n = (if (0 : Int32) < (if (10 : Int32) < (SR1.1 8) then 10 else (SR1.1 8)) then (if (10 : Int32) < (SR1.1 8) then 10 else (SR1.1 8)) else 0)) (hk9 : k9 = (if (0 : Int32) < (if (100 : Int32) < (SR1.1 7) then 100 else (SR1.1 7)) then (if (100 : Int32) < (SR1.1 7) then 100 else (SR1.1 7)) else 0)) (hn0 : ¬ n < 0) (hk0 : ¬ k9 < 0) (hn1 : n.toNatClampNeg ≤ 10) (hk1 : k9.toNatClampNeg ≤ 100) (hH : ∀ u : Nat → Nat, (∀ x ∈ SE, x.1 200 ≠ u 200) → ∃ OH : zHS, f_X1_hold N SN (zQ0 (rSI SR1 5 0) n k9) (u 200) = some OH) : zCX (zNE adK adV tA) l yX11_house cX11_house 2 (some .int) rm_X11_house G ct [.ref (aX 200)] [wX aX (aN 200) (aK 200) (aT 200) (aR 200) (aV 6) gG gY gZ ct SX, wH aN ct SN, wR aR ct SR, wDh ct SE] (fun v C1 => ∃ (u : Nat → Nat) (OH : zHS), (∀ x ∈ SE, x.1 200 ≠ u 200) ∧ f_X1_hold N SN (zQ0 (rSI SR1 5 0) n k9) (u 200) = some OH ∧ v = some (.int (SX.1 10)) ∧ C1 = [wX aX (aN 200) (aK 200) (aT 200) (aR 200) (aV 6) gG gY gZ ct (rSI SX 10 (SX.1 10 + 1)), wH aN ct OH, wR aR ct (rSI SR1 5 0), wDh ct (SE ++ [(u, (zQ0 (rSI SR1 5 0) n k9))])]) 6 141 := by
  refine z_enterX (own := RX11) (lv := [(0, .ref (aX 200))]) (by decide) rfl (Nat.le_of_ble_eq_true rfl) rfl ?_
  intro p e s m args below meth c A E hr hnm hnest
  have hEnv : zEnv adK adV tA A s s.heap := hnest
  refine z_aload_n (pc := 0) (k0 := 0) E dX11_house_0 rfl rfl ?_
  refine gX_10 (pc := 1) (i := 0) E rfl wd_18_11 dX11_house_1 ?_
  refine z_bipush (pc := 4) (v := 6) E dX11_house_4 (by decide) ?_
  refine z_icmp_lt (pc := 6) (tgt := 12) E dX11_house_6 (by decide) (fun _ => ?_) (fun cc => absurd h1 cc)
  refine z_aload_n (pc := 12) (k0 := 0) E dX11_house_12 rfl rfl ?_
  refine gX_3 (pc := 13) (i := 0) E rfl wd_2_1 dX11_house_13 ?_
  refine z_callVE (pc := 16) (is := [2]) (n := 0) (As := []) (st := []) (st' := [.int 1]) (C2 := [wX aX (aN 200) (aK 200) (aT 200) (aR 200) (aV 6) gG gY gZ ct SX, wH aN ct SN, wR aR ct SR1, wDh ct SE]) E hEnv (c_X5_reads (adK := adK) (adV := adV) (tA := tA) (l := l) (G := G) (ct := ct) (aR := aR) hf) wv_X5_reads wd_18_15 ⟨(Nat.le_of_ble_eq_true rfl), (Nat.le_of_ble_eq_true rfl), (Nat.le_of_ble_eq_true rfl), (Nat.le_of_ble_eq_true rfl)⟩ rfl rfl rfl (by decide) rfl rfl (z_rdr (i := 2) E rfl) rfl (Nat.le_of_ble_eq_true rfl) dX11_house_16 rfl rfl ?_
  refine z_istore_n (pc := 19) (lv' := [(1, .int 1), (0, .ref (aX 200))]) E dX11_house_19 rfl (by decide) rfl ?_
  refine z_aload_n (pc := 20) (k0 := 1) E dX11_house_20 rfl rfl ?_
  refine gX_3 (pc := 21) (i := 0) E rfl wd_2_1 dX11_house_21 ?_
  refine z_iconst (pc := 24) (v := 0) E dX11_house_24 (by decide) ?_
  refine pR_5 (pc := 25) (i := 2) (S1 := rSI SR1 5 0) E rfl rfl wd_18_1 dX11_house_25 ?_
  refine z_world (Cs' := [wX aX (aN 200) (aK 200) (aT 200) (aR 200) (aV 6) gG gY gZ ct SX, wH aN ct SN, wR aR ct (rSI SR1 5 0), wDh ct SE]) rfl ?_
  refine z_iload_n (pc := 28) (k0 := 0) E dX11_house_28 rfl rfl ?_
  refine z_if_ne (pc := 29) (tgt := 43) E dX11_house_29 (by decide) (fun _ => ?_) (fun cc => absurd cc (by decide))
  refine z_aload_n (pc := 43) (k0 := 1) E dX11_house_43 rfl rfl ?_
  refine gX_0 (pc := 44) (i := 0) E rfl wd_1_16 dX11_house_44 ?_
  refine z_new (pc := 47) (C := RX2) (ci := 2) (fs := [.null, .null, .null, .null, .null]) E inlX2 tyX2 tyX2_ok wd_18_13 wd_18_14 wd_14_12 rfl (by decide +kernel) (Nat.le_of_ble_eq_true rfl) (Nat.le_of_ble_eq_true rfl) dX11_house_47 (fun w1 => ?_)
  show zJ p l e rm_X11_house s m args below meth c (MQ below (zQX G ct (fun v C1 => ∃ (u : Nat → Nat) (OH : zHS), (∀ x ∈ SE, x.1 200 ≠ u 200) ∧ f_X1_hold N SN (zQ0 (rSI SR1 5 0) n k9) (u 200) = some OH ∧ v = some (.int (SX.1 10)) ∧ C1 = [wX aX (aN 200) (aK 200) (aT 200) (aR 200) (aV 6) gG gY gZ ct (rSI SX 10 (SX.1 10 + 1)), wH aN ct OH, wR aR ct (rSI SR1 5 0), wDh ct (SE ++ [(u, (zQ0 (rSI SR1 5 0) n k9))])]) A) args s 6 141 A) A G 2 1 5 [wX aX (aN 200) (aK 200) (aT 200) (aR 200) (aV 6) gG gY gZ ct SX, wH aN ct SN, wR aR ct (rSI SR1 5 0), wDh ct SE, [(w1, .inr (2, [.null, .null, .null, .null, .null]))]] [(1, .int 1), (0, .ref (aX 200))] 50 [.ref w1, .ref (aN 200)]
  refine z_dup (pc := 50) E dX11_house_50 rfl ?_
  refine z_aload_n (pc := 51) (k0 := 1) E dX11_house_51 rfl rfl ?_
  refine gX_3 (pc := 52) (i := 0) E rfl wd_2_1 dX11_house_52 ?_
  refine z_callIG (pc := 55) E zBl_env (fun B H locs U hS hU hW hF => by subst hU; exact hEnv.go hW hS hF) (n := 1) (As := [.ref (aR 200)]) (b := w1) (is := [4, 2]) (st := [.ref w1, .ref (aN 200)]) (c_X2_init (adK := adK) (adV := adV) (tA := tA) (q := w1) (aR := aR) (SR := rSI SR1 5 0) hn hk9 hn0 hk0 hn1 hk1) wd_14_12 wd_25_0 wd_25_1 wd_25_2 rfl (by decide) ⟨(Nat.le_of_ble_eq_true rfl), (Nat.le_of_ble_eq_true rfl)⟩ rfl rfl ⟨(Nat.le_of_ble_eq_true rfl), (Nat.le_of_ble_eq_true rfl)⟩ rfl rfl rfl (fun v C1 h => by obtain ⟨-, _, -, e⟩ := h; rw [e]; rfl) rfl (Nat.le_of_ble_eq_true rfl) dX11_house_55 ?_
  rintro _ _ ⟨rfl, u, hu, rfl⟩
  subst hu
  show zJ p l e rm_X11_house s m args below meth c (MQ below (zQX G ct (fun v C1 => ∃ (u : Nat → Nat) (OH : zHS), (∀ x ∈ SE, x.1 200 ≠ u 200) ∧ f_X1_hold N SN (zQ0 (rSI SR1 5 0) n k9) (u 200) = some OH ∧ v = some (.int (SX.1 10)) ∧ C1 = [wX aX (aN 200) (aK 200) (aT 200) (aR 200) (aV 6) gG gY gZ ct (rSI SX 10 (SX.1 10 + 1)), wH aN ct OH, wR aR ct (rSI SR1 5 0), wDh ct (SE ++ [(u, (zQ0 (rSI SR1 5 0) n k9))])]) A) args s 6 141 A) A G 2 6 141 [wX aX (aN 200) (aK 200) (aT 200) (aR 200) (aV 6) gG gY gZ ct SX, wH aN ct SN, wR aR ct (rSI SR1 5 0), wDh ct SE, wQ u ct (zQ0 (rSI SR1 5 0) n k9)] [(1, .int 1), (0, .ref (aX 200))] 58 [.ref (u 200), .ref (aN 200)]
  refine z_freshE (i := 3) (j := 4) rfl rfl rfl (fun hu => ?_)
  obtain ⟨OH, hOH⟩ := hH u hu
  refine z_callV0 (pc := 58) (is := [1, 4]) (n := 1) (As := [.ref (u 200)]) (st := []) (st' := []) (C2 := [wX aX (aN 200) (aK 200) (aT 200) (aR 200) (aV 6) gG gY gZ ct SX, wH aN ct OH, wR aR ct (rSI SR1 5 0), wDh ct SE, wQ u ct (zQ0 (rSI SR1 5 0) n k9)]) E (c_X1_hold (l := l) (G := G) (ct := ct) (aH := aN) (aQ := u) hOH) wv_X1_hold wd_25_17 ⟨(Nat.le_of_ble_eq_true rfl), (Nat.le_of_ble_eq_true rfl), (Nat.le_of_ble_eq_true rfl), (Nat.le_of_ble_eq_true rfl)⟩ rfl rfl rfl (by decide) rfl rfl (zrH (j := 0) rfl) rfl (Nat.le_of_ble_eq_true rfl) dX11_house_58 rfl rfl ?_
  refine z_aload_n (pc := 61) (k0 := 1) E dX11_house_61 rfl rfl ?_
  refine z_dup (pc := 62) E dX11_house_62 rfl ?_
  refine gX_10 (pc := 63) (i := 0) E rfl wd_18_11 dX11_house_63 ?_
  refine z_dup_x1 (pc := 66) E dX11_house_66 rfl rfl ?_
  refine z_iconst (pc := 67) (v := 1) E dX11_house_67 (by decide) ?_
  refine z_iadd (pc := 68) (v := SX.1 10 + 1) E dX11_house_68 rfl ?_
  refine pX_10 (pc := 69) (i := 0) (S1 := rSI SX 10 (SX.1 10 + 1)) E rfl rfl wd_18_11 dX11_house_69 ?_
  refine z_world (Cs' := [wX aX (aN 200) (aK 200) (aT 200) (aR 200) (aV 6) gG gY gZ ct (rSI SX 10 (SX.1 10 + 1)), wH aN ct OH, wR aR ct (rSI SR1 5 0), wDh ct (SE ++ [(u, (zQ0 (rSI SR1 5 0) n k9))])]) (by simp [zfl, wDh]) ?_
  exact z_iretX E hr ⟨u, OH, hu, hOH, rfl, rfl⟩ dX11_house_72
