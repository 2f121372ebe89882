noncomputable def f_X11_mean_l4 (N : Nat) (SX : zRS) (SN : zHS) (SK : zHS) (SR : zRS) (SV : (Nat → Nat → Int64)) (SG : (Nat → Int32)) (SY : (Nat → Int32)) (SZ : (Nat → Int32)) (SD : (List (Nat × zPS))) : Nat → zTS → zHS → ((List ((Nat → Nat) × zQS))) → Int32 → Int32 → Int32 → Option (Int64 × zTS × zHS × ((List ((Nat → Nat) × zQS)))) := fun n => Nat.rec (motive := fun _ => zTS → zHS → ((List ((Nat → Nat) × zQS))) → Int32 → Int32 → Int32 → Option (Int64 × zTS × zHS × ((List ((Nat → Nat) × zQS))))) (fun _ _ _ _ _ _ => none) (fun _ ih ST SH SE x1 x2 x3 => kB ((SN.1 8) ≤ x3) (kC (f_X11_lowest N x2 (SN.1 8) x1) (fun r2 => some (r2, ST, SH, SE))) (kC (f_X1_person SN x3) (fun r4 => kD (f_X10_start N ST SH SN SD) (fun S_6 S_7 => kD3 (f_X10_run N S_6 S_7 SD SE r4 r4 60) (fun S_9 S_10 S_11 => kL (x2 + (S_10.1 11)) (fun v13 => kL (x3 + 1) (fun v14 => ih S_9 S_10 S_11 x1 v13 v14))))))) n
theorem f_X11_mean_l4_z (N : Nat) (SX : zRS) (SN : zHS) (SK : zHS) (SR : zRS) (SV : (Nat → Nat → Int64)) (SG : (Nat → Int32)) (SY : (Nat → Int32)) (SZ : (Nat → Int32)) (SD : (List (Nat × zPS))) (ST : zTS) (SH : zHS) (SE : (List ((Nat → Nat) × zQS))) (x1 : Int32) (x2 : Int32) (x3 : Int32) : f_X11_mean_l4 N SX SN SK SR SV SG SY SZ SD 0 ST SH SE x1 x2 x3 = none := rfl
theorem f_X11_mean_l4_s (N : Nat) (SX : zRS) (SN : zHS) (SK : zHS) (SR : zRS) (SV : (Nat → Nat → Int64)) (SG : (Nat → Int32)) (SY : (Nat → Int32)) (SZ : (Nat → Int32)) (SD : (List (Nat × zPS))) (n : Nat) (ST : zTS) (SH : zHS) (SE : (List ((Nat → Nat) × zQS))) (x1 : Int32) (x2 : Int32) (x3 : Int32) : f_X11_mean_l4 N SX SN SK SR SV SG SY SZ SD (n + 1) ST SH SE x1 x2 x3 = kB ((SN.1 8) ≤ x3) (kC (f_X11_lowest N x2 (SN.1 8) x1) (fun r2 => some (r2, ST, SH, SE))) (kC (f_X1_person SN x3) (fun r4 => kD (f_X10_start N ST SH SN SD) (fun S_6 S_7 => kD3 (f_X10_run N S_6 S_7 SD SE r4 r4 60) (fun S_9 S_10 S_11 => kL (x2 + (S_10.1 11)) (fun v13 => kL (x3 + 1) (fun v14 => (f_X11_mean_l4 N SX SN SK SR SV SG SY SZ SD n) S_9 S_10 S_11 x1 v13 v14)))))) := rfl
noncomputable def f_X11_mean (N : Nat) (SX : zRS) (SN : zHS) (SK : zHS) (ST : zTS) (SH : zHS) (SR : zRS) (SV : (Nat → Nat → Int64)) (SG : (Nat → Int32)) (SY : (Nat → Int32)) (SZ : (Nat → Int32)) (SD : (List (Nat × zPS))) (SE : (List ((Nat → Nat) × zQS))) (a1 : Int32) : Option (Int64 × zTS × zHS × ((List ((Nat → Nat) × zQS)))) := f_X11_mean_l4 N SX SN SK SR SV SG SY SZ SD N ST SH SE a1 0 0
theorem wv_X11_mean : zWV RX11 yX11_mean cX11_mean 5 (some .long) 1 := ⟨wd_41_17, wd_41_18, wd_1_2, wd_41_19, by decide +kernel⟩
def rm_X11_mean : Room := { frames := 6, cells := 0, slots := 0, locals := 171 }
set_option maxHeartbeats 4000000 in
set_option maxRecDepth 100000 in
theorem c_X11_mean {l : Launch} {G : va_G} {ct : Nat → ClassId} {aX : Nat → Nat} {aN : Nat → Nat} {aK : Nat → Nat} {aT : Nat → Nat} {aH : Nat → Nat} {aR : Nat → Nat} {aV : Nat → Nat} {gG : Nat} {gY : Nat} {gZ : Nat} {N : Nat} {SX : zRS} {SN : zHS} {SK : zHS} {ST : zTS} {SH : zHS} {SR : zRS} {SV : (Nat → Nat → Int64)} {SG : (Nat → Int32)} {SY : (Nat → Int32)} {SZ : (Nat → Int32)} {SD : (List (Nat × zPS))} {SE : (List ((Nat → Nat) × zQS))} {a1 : Int32} {r0 : Int64} {OT : zTS} {OH : zHS} {OE : (List ((Nat → Nat) × zQS))} (hf : f_X11_mean N SX SN SK ST SH SR SV SG SY SZ SD SE a1 = some (r0, OT, OH, OE)) : zC l yX11_mean cX11_mean 5 (some .long) rm_X11_mean G ct [.ref (aX 200), .int a1] [wX aX (aN 200) (aK 200) (aT 200) (aR 200) (aV 6) gG gY gZ ct SX, wH aN ct SN, wH aK ct SK, wT aT (aH 200) ct ST, wH aH ct SH, wR aR ct SR, wV aV ct SV, wA gG 21 ct SG, wA gY 5 ct SY, wA gZ 5 ct SZ, wDp gG SD, wDh ct SE] [wX aX (aN 200) (aK 200) (aT 200) (aR 200) (aV 6) gG gY gZ ct SX, wH aN ct SN, wH aK ct SK, wT aT (aH 200) ct OT, wH aH ct OH, wR aR ct SR, wV aV ct SV, wA gG 21 ct SG, wA gY 5 ct SY, wA gZ 5 ct SZ, wDp gG SD, wDh ct OE] (some (.long r0)) 0 0 := by
  refine z_enter (own := RX11) (lv := [(0, .ref (aX 200)), (1, .int a1)]) (by decide) rfl (Nat.le_of_ble_eq_true rfl) rfl ?_
  intro p e s m args below meth c A E hr hnm
  have L4 : ∀ (n4 : Nat) (ST : zTS) (SH : zHS) (SE : (List ((Nat → Nat) × zQS))) (x1 : Int32) (x2 : Int32) (x3 : Int32), f_X11_mean_l4 N SX SN SK SR SV SG SY SZ SD n4 ST SH SE x1 x2 x3 = some (r0, OT, OH, OE) → zJ p l e rm_X11_mean s m args below meth c (zQ G ct (some (.long r0)) [wX aX (aN 200) (aK 200) (aT 200) (aR 200) (aV 6) gG gY gZ ct SX, wH aN ct SN, wH aK ct SK, wT aT (aH 200) ct OT, wH aH ct OH, wR aR ct SR, wV aV ct SV, wA gG 21 ct SG, wA gY 5 ct SY, wA gZ 5 ct SZ, wDp gG SD, wDh ct OE] A below args s 0 0) A G 5 0 0 [wX aX (aN 200) (aK 200) (aT 200) (aR 200) (aV 6) gG gY gZ ct SX, wH aN ct SN, wH aK ct SK, wT aT (aH 200) ct ST, wH aH ct SH, wR aR ct SR, wV aV ct SV, wA gG 21 ct SG, wA gY 5 ct SY, wA gZ 5 ct SZ, wDp gG SD, wDh ct SE] [(0, .ref (aX 200)), (1, .int x1), (2, .int x2), (3, .int x3)] 4 [] := by
    intro n4
    induction n4 with
    | zero =>
      intro ST SH SE x1 x2 x3 hf
      rw [f_X11_mean_l4_z] at hf
      cases hf
    | succ n4 ih4 =>
      intro ST SH SE x1 x2 x3 hf
      rw [f_X11_mean_l4_s] at hf
      refine z_iload_n (pc := 4) (k0 := 3) E dX11_mean_4 rfl rfl ?_
      refine z_aload_n (pc := 5) (k0 := 0) E dX11_mean_5 rfl rfl ?_
      refine gX_0 (pc := 6) (i := 0) E rfl wd_1_16 dX11_mean_6 ?_
      refine gH_8 (pc := 9) (i := 1) E rfl wd_7_19 dX11_mean_9 ?_
      refine z_icmp_ge (pc := 12) (tgt := 68) E dX11_mean_12 (by decide) (fun c1 => ?_) (fun c1 => ?_)
      · have hf := kB_t hf c1
        refine z_iload_n (pc := 68) (k0 := 2) E dX11_mean_68 rfl rfl ?_
        refine z_aload_n (pc := 69) (k0 := 0) E dX11_mean_69 rfl rfl ?_
        refine gX_0 (pc := 70) (i := 0) E rfl wd_1_16 dX11_mean_70 ?_
        refine gH_8 (pc := 73) (i := 1) E rfl wd_7_19 dX11_mean_73 ?_
        refine z_iload_n (pc := 76) (k0 := 1) E dX11_mean_76 rfl rfl ?_
        obtain ⟨r2, h3, hf⟩ := kC_e hf
        refine z_callS0 (pc := 77) (is := []) (n := 3) (As := [.int x2, .int (SN.1 8), .int x1]) (st := []) (st' := [.long r2]) (C2 := [wX aX (aN 200) (aK 200) (aT 200) (aR 200) (aV 6) gG gY gZ ct SX, wH aN ct SN, wH aK ct SK, wT aT (aH 200) ct ST, wH aH ct SH, wR aR ct SR, wV aV ct SV, wA gG 21 ct SG, wA gY 5 ct SY, wA gZ 5 ct SZ, wDp gG SD, wDh ct SE]) E (c_X11_lowest (l := l) (G := G) (ct := ct)  h3) wv_X11_lowest wd_41_0 ⟨Nat.le_of_ble_eq_true rfl, Nat.le_of_ble_eq_true rfl, Nat.le_of_ble_eq_true rfl, Nat.le_of_ble_eq_true rfl⟩ rfl rfl rfl (by decide) rfl rfl rfl (Nat.le_of_ble_eq_true rfl) dX11_mean_77 rfl rfl ?_
        cases hf
        exact z_lret E hr dX11_mean_80
      · have hf := kB_f hf c1
        refine z_aload_n (pc := 15) (k0 := 0) E dX11_mean_15 rfl rfl ?_
        refine gX_0 (pc := 16) (i := 0) E rfl wd_1_16 dX11_mean_16 ?_
        refine z_iload_n (pc := 19) (k0 := 3) E dX11_mean_19 rfl rfl ?_
        obtain ⟨r4, h5, hf⟩ := kC_e hf
        refine z_callV0 (pc := 20) (is := [1]) (n := 1) (As := [.int x3]) (st := []) (st' := [va_rf r4]) (C2 := [wX aX (aN 200) (aK 200) (aT 200) (aR 200) (aV 6) gG gY gZ ct SX, wH aN ct SN, wH aK ct SK, wT aT (aH 200) ct ST, wH aH ct SH, wR aR ct SR, wV aV ct SV, wA gG 21 ct SG, wA gY 5 ct SY, wA gZ 5 ct SZ, wDp gG SD, wDh ct SE]) E (c_X1_person (l := l) (G := G) (ct := ct) (aH := aN) h5) wv_X1_person wd_11_10 ⟨Nat.le_of_ble_eq_true rfl, Nat.le_of_ble_eq_true rfl, Nat.le_of_ble_eq_true rfl, Nat.le_of_ble_eq_true rfl⟩ rfl rfl rfl (by decide) rfl rfl (zrH (j := 0) rfl) rfl (Nat.le_of_ble_eq_true rfl) dX11_mean_20 rfl rfl ?_
        refine z_qstore (pc := 23) (lv' := [(4, va_rf r4), (0, .ref (aX 200)), (1, .int x1), (2, .int x2), (3, .int x3)]) E dX11_mean_23 (by decide) rfl ?_
        refine z_aload_n (pc := 25) (k0 := 1) E dX11_mean_25 rfl rfl ?_
        refine gX_2 (pc := 26) (i := 0) E rfl wd_1_21 dX11_mean_26 ?_
        refine z_aload_n (pc := 29) (k0 := 1) E dX11_mean_29 rfl rfl ?_
        refine gX_0 (pc := 30) (i := 0) E rfl wd_1_16 dX11_mean_30 ?_
        obtain ⟨S_6, S_7, h8, hf⟩ := kD_e hf
        refine z_callV0 (pc := 33) (is := [3, 4, 1, 10]) (n := 1) (As := [.ref (aN 200)]) (st := []) (st' := []) (C2 := [wX aX (aN 200) (aK 200) (aT 200) (aR 200) (aV 6) gG gY gZ ct SX, wH aN ct SN, wH aK ct SK, wT aT (aH 200) ct S_6, wH aH ct S_7, wR aR ct SR, wV aV ct SV, wA gG 21 ct SG, wA gY 5 ct SY, wA gZ 5 ct SZ, wDp gG SD, wDh ct SE]) E (c_X10_start (l := l) (G := G) (ct := ct) (aT := aT) (aH := aH) (aK := aN) (gG := gG) h8) wv_X10_start wd_32_12 ⟨Nat.le_of_ble_eq_true rfl, Nat.le_of_ble_eq_true rfl, Nat.le_of_ble_eq_true rfl, Nat.le_of_ble_eq_true rfl⟩ rfl rfl rfl (by decide) rfl rfl (zrT (j := 0) rfl) rfl (Nat.le_of_ble_eq_true rfl) dX11_mean_33 rfl rfl ?_
        refine z_aload_n (pc := 36) (k0 := 1) E dX11_mean_36 rfl rfl ?_
        refine gX_2 (pc := 37) (i := 0) E rfl wd_1_21 dX11_mean_37 ?_
        refine z_qload (pc := 40) (k0 := 0) E dX11_mean_40 rfl ?_
        refine z_qload (pc := 42) (k0 := 0) E dX11_mean_42 rfl ?_
        refine z_bipush (pc := 44) (v := 60) E dX11_mean_44 (by decide) ?_
        obtain ⟨S_9, S_10, S_11, h12, hf⟩ := kD3_e hf
        refine z_callV0 (pc := 46) (is := [3, 4, 10, 11]) (n := 3) (As := [va_rf r4, va_rf r4, .int 60]) (st := []) (st' := []) (C2 := [wX aX (aN 200) (aK 200) (aT 200) (aR 200) (aV 6) gG gY gZ ct SX, wH aN ct SN, wH aK ct SK, wT aT (aH 200) ct S_9, wH aH ct S_10, wR aR ct SR, wV aV ct SV, wA gG 21 ct SG, wA gY 5 ct SY, wA gZ 5 ct SZ, wDp gG SD, wDh ct S_11]) E (c_X10_run (l := l) (G := G) (ct := ct) (aT := aT) (aH := aH) (gG := gG) h12) wv_X10_run wd_33_7 ⟨Nat.le_of_ble_eq_true rfl, Nat.le_of_ble_eq_true rfl, Nat.le_of_ble_eq_true rfl, Nat.le_of_ble_eq_true rfl⟩ rfl rfl rfl (by decide) rfl rfl (zrT (j := 0) rfl) rfl (Nat.le_of_ble_eq_true rfl) dX11_mean_46 rfl rfl ?_
        refine z_iload_n (pc := 49) (k0 := 3) E dX11_mean_49 rfl rfl ?_
        refine z_aload_n (pc := 50) (k0 := 1) E dX11_mean_50 rfl rfl ?_
        refine gX_2 (pc := 51) (i := 0) E rfl wd_1_21 dX11_mean_51 ?_
        refine gT_0 (pc := 54) (i := 3) E rfl wd_32_10 dX11_mean_54 ?_
        refine gH_11 (pc := 57) (i := 4) E rfl wd_28_18 dX11_mean_57 ?_
        obtain ⟨v13, e_v13, hf⟩ := kL_e hf
        refine z_iadd (pc := 60) (v := v13) E dX11_mean_60 e_v13 ?_
        refine z_istore_n (pc := 61) (lv' := [(2, .int v13), (4, va_rf r4), (0, .ref (aX 200)), (1, .int x1), (3, .int x3)]) E dX11_mean_61 rfl (by decide) rfl ?_
        obtain ⟨v14, e_v14, hf⟩ := kL_e hf
        refine z_iinc (pc := 62) (k0 := 4) (v := v14) (lv' := [(3, .int v14), (2, .int v13), (4, va_rf r4), (0, .ref (aX 200)), (1, .int x1)]) E dX11_mean_62 rfl e_v14 (by decide) rfl ?_
        refine z_goto (pc := 65) (tgt := 4) E dX11_mean_65 (by decide) ?_
        refine z_sub [3, 4, 1, 0] (lv' := [(0, .ref (aX 200)), (1, .int x1), (2, .int v13), (3, .int v14)]) rfl ?_
        exact ih4 S_9 S_10 S_11 x1 v13 v14 hf
  unfold f_X11_mean at hf
  refine z_iconst (pc := 0) (v := 0) E dX11_mean_0 (by decide) ?_
  refine z_istore_n (pc := 1) (lv' := [(2, .int 0), (0, .ref (aX 200)), (1, .int a1)]) E dX11_mean_1 rfl (by decide) rfl ?_
  refine z_iconst (pc := 2) (v := 0) E dX11_mean_2 (by decide) ?_
  refine z_istore_n (pc := 3) (lv' := [(3, .int 0), (2, .int 0), (0, .ref (aX 200)), (1, .int a1)]) E dX11_mean_3 rfl (by decide) rfl ?_
  refine z_sub [2, 3, 1, 0] (lv' := [(0, .ref (aX 200)), (1, .int a1), (2, .int 0), (3, .int 0)]) rfl ?_
  exact L4 N ST SH SE a1 0 0 hf
noncomputable def f_X11_book (SX : zRS) (SN : zHS) (SK : zHS) (ST : zTS) (SH : zHS) (SR : zRS) (SV : (Nat → Nat → Int64)) (SG : (Nat → Int32)) (SY : (Nat → Int32)) (SZ : (Nat → Int32)) (SD : (List (Nat × zPS))) (SE : (List ((Nat → Nat) × zQS))) (a1 : Int32) : Option (Int32 × zHS) := kB (a1 = (-1)) (kL (hSI SN 10 0) (fun SN_11 => some (0, SN_11))) (kC (f_X1_person SN a1) (fun r2 => kN r2 (some ((-1), SN)) (fun w4 => kB ((SN.1 10) < 12) (kL ((SN.1 10) + 1) (fun v7 => kL (hSI SN 10 v7) (fun SN_8 => kO (¬ ((SN.1 10) < 0 ∨ 12 ≤ Int32.toNatClampNeg (SN.1 10))) (kL (hSA SN_8 6 (upd (SN_8.2.1 6) (Int32.toNatClampNeg (SN.1 10)) a1)) (fun SN_10 => some ((SN_10.1 10), SN_10)))))) (some ((-4), SN)))))
theorem wv_X11_book : zWV RX11 yX11_book cX11_book 2 (some .int) 1 := ⟨wd_42_2, wd_42_3, wd_1_2, wd_42_4, by decide +kernel⟩
def rm_X11_book : Room := { frames := 1, cells := 0, slots := 0, locals := 21 }
set_option maxHeartbeats 4000000 in
set_option maxRecDepth 100000 in
theorem c_X11_book {l : Launch} {G : va_G} {ct : Nat → ClassId} {aX : Nat → Nat} {aN : Nat → Nat} {aK : Nat → Nat} {aT : Nat → Nat} {aH : Nat → Nat} {aR : Nat → Nat} {aV : Nat → Nat} {gG : Nat} {gY : Nat} {gZ : Nat} {SX : zRS} {SN : zHS} {SK : zHS} {ST : zTS} {SH : zHS} {SR : zRS} {SV : (Nat → Nat → Int64)} {SG : (Nat → Int32)} {SY : (Nat → Int32)} {SZ : (Nat → Int32)} {SD : (List (Nat × zPS))} {SE : (List ((Nat → Nat) × zQS))} {a1 : Int32} {r0 : Int32} {ON : zHS} (hf : f_X11_book SX SN SK ST SH SR SV SG SY SZ SD SE a1 = some (r0, ON)) : zC l yX11_book cX11_book 2 (some .int) rm_X11_book G ct [.ref (aX 200), .int a1] [wX aX (aN 200) (aK 200) (aT 200) (aR 200) (aV 6) gG gY gZ ct SX, wH aN ct SN, wH aK ct SK, wT aT (aH 200) ct ST, wH aH ct SH, wR aR ct SR, wV aV ct SV, wA gG 21 ct SG, wA gY 5 ct SY, wA gZ 5 ct SZ, wDp gG SD, wDh ct SE] [wX aX (aN 200) (aK 200) (aT 200) (aR 200) (aV 6) gG gY gZ ct SX, wH aN ct ON, wH aK ct SK, wT aT (aH 200) ct ST, wH aH ct SH, wR aR ct SR, wV aV ct SV, wA gG 21 ct SG, wA gY 5 ct SY, wA gZ 5 ct SZ, wDp gG SD, wDh ct SE] (some (.int r0)) 0 0 := by
  refine z_enter (own := RX11) (lv := [(0, .ref (aX 200)), (1, .int a1)]) (by decide) rfl (Nat.le_of_ble_eq_true rfl) rfl ?_
  intro p e s m args below meth c A E hr hnm
  unfold f_X11_book at hf
  refine z_iload_n (pc := 0) (k0 := 1) E dX11_book_0 rfl rfl ?_
  refine z_iconst (pc := 1) (v := (-1)) E dX11_book_1 (by decide) ?_
  refine z_icmp_ne (pc := 2) (tgt := 15) E dX11_book_2 (by decide) (fun c1 => ?_) (fun c1 => ?_)
  · have hf := kB_f hf c1
    refine z_aload_n (pc := 15) (k0 := 0) E dX11_book_15 rfl rfl ?_
    refine gX_0 (pc := 16) (i := 0) E rfl wd_1_16 dX11_book_16 ?_
    refine z_iload_n (pc := 19) (k0 := 1) E dX11_book_19 rfl rfl ?_
    obtain ⟨r2, h3, hf⟩ := kC_e hf
    refine z_callV0 (pc := 20) (is := [1]) (n := 1) (As := [.int a1]) (st := []) (st' := [va_rf r2]) (C2 := [wX aX (aN 200) (aK 200) (aT 200) (aR 200) (aV 6) gG gY gZ ct SX, wH aN ct SN, wH aK ct SK, wT aT (aH 200) ct ST, wH aH ct SH, wR aR ct SR, wV aV ct SV, wA gG 21 ct SG, wA gY 5 ct SY, wA gZ 5 ct SZ, wDp gG SD, wDh ct SE]) E (c_X1_person (l := l) (G := G) (ct := ct) (aH := aN) h3) wv_X1_person wd_11_10 ⟨Nat.le_of_ble_eq_true rfl, Nat.le_of_ble_eq_true rfl, Nat.le_of_ble_eq_true rfl, Nat.le_of_ble_eq_true rfl⟩ rfl rfl rfl (by decide) rfl rfl (zrH (j := 0) rfl) rfl (Nat.le_of_ble_eq_true rfl) dX11_book_20 rfl rfl ?_
    refine z_ifnonnull (pc := 23) (tgt := 28) E dX11_book_23 (by decide) (fun w4 e5 => ?_) (fun e5 => ?_)
    · have hf := kN_s hf e5
      have hf_e5 := hf
      subst e5
      have hf := hf_e5
      refine z_aload_n (pc := 28) (k0 := 0) E dX11_book_28 rfl rfl ?_
      refine gX_0 (pc := 29) (i := 0) E rfl wd_1_16 dX11_book_29 ?_
      refine gH_10 (pc := 32) (i := 1) E rfl wd_42_5 dX11_book_32 ?_
      refine z_bipush (pc := 35) (v := 12) E dX11_book_35 (by decide) ?_
      refine z_icmp_lt (pc := 37) (tgt := 43) E dX11_book_37 (by decide) (fun c6 => ?_) (fun c6 => ?_)
      · have hf := kB_t hf c6
        refine z_aload_n (pc := 43) (k0 := 0) E dX11_book_43 rfl rfl ?_
        refine gX_0 (pc := 44) (i := 0) E rfl wd_1_16 dX11_book_44 ?_
        refine gH_6 (pc := 47) (i := 1) E rfl wd_42_6 dX11_book_47 ?_
        refine z_aload_n (pc := 50) (k0 := 0) E dX11_book_50 rfl rfl ?_
        refine gX_0 (pc := 51) (i := 0) E rfl wd_1_16 dX11_book_51 ?_
        refine z_dup (pc := 54) E dX11_book_54 rfl ?_
        refine gH_10 (pc := 55) (i := 1) E rfl wd_42_5 dX11_book_55 ?_
        refine z_dup_x1 (pc := 58) E dX11_book_58 rfl rfl ?_
        refine z_iconst (pc := 59) (v := 1) E dX11_book_59 (by decide) ?_
        obtain ⟨v7, e_v7, hf⟩ := kL_e hf
        refine z_iadd (pc := 60) (v := v7) E dX11_book_60 e_v7 ?_
        obtain ⟨SN_8, e_SN_8, hf⟩ := kL_e hf
        refine pH_10 (pc := 61) (i := 1) (S1 := SN_8) E rfl e_SN_8 wd_42_5 dX11_book_61 ?_
        show zJ p l e rm_X11_book s m args below meth c (zQ G ct (some (.int r0)) [wX aX (aN 200) (aK 200) (aT 200) (aR 200) (aV 6) gG gY gZ ct SX, wH aN ct ON, wH aK ct SK, wT aT (aH 200) ct ST, wH aH ct SH, wR aR ct SR, wV aV ct SV, wA gG 21 ct SG, wA gY 5 ct SY, wA gZ 5 ct SZ, wDp gG SD, wDh ct SE] A below args s 0 0) A G 2 0 0 [wX aX (aN 200) (aK 200) (aT 200) (aR 200) (aV 6) gG gY gZ ct SX, wH aN ct SN_8, wH aK ct SK, wT aT (aH 200) ct ST, wH aH ct SH, wR aR ct SR, wV aV ct SV, wA gG 21 ct SG, wA gY 5 ct SY, wA gZ 5 ct SZ, wDp gG SD, wDh ct SE] [(0, .ref (aX 200)), (1, .int a1)] 64 [.int (SN.1 10), .ref (aN 6)]
        refine z_iload_n (pc := 64) (k0 := 1) E dX11_book_64 rfl rfl ?_
        obtain ⟨c9, hf⟩ := kO_e hf
        obtain ⟨SN_10, e_SN_10, hf⟩ := kL_e hf
        refine sH_6 (pc := 65) (i := 1) (S1 := SN_10) E rfl c9 e_SN_10 dX11_book_65 ?_
        show zJ p l e rm_X11_book s m args below meth c (zQ G ct (some (.int r0)) [wX aX (aN 200) (aK 200) (aT 200) (aR 200) (aV 6) gG gY gZ ct SX, wH aN ct ON, wH aK ct SK, wT aT (aH 200) ct ST, wH aH ct SH, wR aR ct SR, wV aV ct SV, wA gG 21 ct SG, wA gY 5 ct SY, wA gZ 5 ct SZ, wDp gG SD, wDh ct SE] A below args s 0 0) A G 2 0 0 [wX aX (aN 200) (aK 200) (aT 200) (aR 200) (aV 6) gG gY gZ ct SX, wH aN ct SN_10, wH aK ct SK, wT aT (aH 200) ct ST, wH aH ct SH, wR aR ct SR, wV aV ct SV, wA gG 21 ct SG, wA gY 5 ct SY, wA gZ 5 ct SZ, wDp gG SD, wDh ct SE] [(0, .ref (aX 200)), (1, .int a1)] 66 []
        refine z_aload_n (pc := 66) (k0 := 0) E dX11_book_66 rfl rfl ?_
        refine gX_0 (pc := 67) (i := 0) E rfl wd_1_16 dX11_book_67 ?_
        refine gH_10 (pc := 70) (i := 1) E rfl wd_42_5 dX11_book_70 ?_
        cases hf
        exact z_iret E hr dX11_book_73
      · have hf := kB_f hf c6
        refine z_bipush (pc := 40) (v := (-4)) E dX11_book_40 (by decide) ?_
        cases hf
        exact z_iret E hr dX11_book_42
    · have hf := kN_n hf e5
      refine z_iconst (pc := 26) (v := (-1)) E dX11_book_26 (by decide) ?_
      cases hf
      exact z_iret E hr dX11_book_27
  · have hf := kB_t hf c1
    refine z_aload_n (pc := 5) (k0 := 0) E dX11_book_5 rfl rfl ?_
    refine gX_0 (pc := 6) (i := 0) E rfl wd_1_16 dX11_book_6 ?_
    refine z_iconst (pc := 9) (v := 0) E dX11_book_9 (by decide) ?_
    obtain ⟨SN_11, e_SN_11, hf⟩ := kL_e hf
    refine pH_10 (pc := 10) (i := 1) (S1 := SN_11) E rfl e_SN_11 wd_42_5 dX11_book_10 ?_
    show zJ p l e rm_X11_book s m args below meth c (zQ G ct (some (.int r0)) [wX aX (aN 200) (aK 200) (aT 200) (aR 200) (aV 6) gG gY gZ ct SX, wH aN ct ON, wH aK ct SK, wT aT (aH 200) ct ST, wH aH ct SH, wR aR ct SR, wV aV ct SV, wA gG 21 ct SG, wA gY 5 ct SY, wA gZ 5 ct SZ, wDp gG SD, wDh ct SE] A below args s 0 0) A G 2 0 0 [wX aX (aN 200) (aK 200) (aT 200) (aR 200) (aV 6) gG gY gZ ct SX, wH aN ct SN_11, wH aK ct SK, wT aT (aH 200) ct ST, wH aH ct SH, wR aR ct SR, wV aV ct SV, wA gG 21 ct SG, wA gY 5 ct SY, wA gZ 5 ct SZ, wDp gG SD, wDh ct SE] [(0, .ref (aX 200)), (1, .int a1)] 13 []
    refine z_iconst (pc := 13) (v := 0) E dX11_book_13 (by decide) ?_
    cases hf
    exact z_iret E hr dX11_book_14
noncomputable def f_X11_looked_l13 (N : Nat) (SX : zRS) (SN : zHS) (SK : zHS) (SR : zRS) (SV : (Nat → Nat → Int64)) (SG : (Nat → Int32)) (SY : (Nat → Int32)) (SZ : (Nat → Int32)) (SD : (List (Nat × zPS))) : Nat → zTS → zHS → ((List ((Nat → Nat) × zQS))) → Int32 → Option (Int32 × zTS × zHS × ((List ((Nat → Nat) × zQS)))) := fun n => Nat.rec (motive := fun _ => zTS → zHS → ((List ((Nat → Nat) × zQS))) → Int32 → Option (Int32 × zTS × zHS × ((List ((Nat → Nat) × zQS))))) (fun _ _ _ _ => none) (fun _ ih ST SH SE x1 => kB ((SN.1 10) ≤ x1) (some ((-5), ST, SH, SE)) (kB (12 ≤ x1) (some ((-5), ST, SH, SE)) (kC (f_X10_goesOn ST SH) (fun r6 => kB (r6 = 0) (some (x1, ST, SH, SE)) (kO (¬ (x1 < 0 ∨ 12 ≤ Int32.toNatClampNeg x1)) (kC (f_X1_person SN ((SN.2.1 6) (Int32.toNatClampNeg x1))) (fun r10 => kD4 (f_X10_step N ST SH SD SE r10) (fun r12 S_13 S_14 S_15 => kB (r12 = 0) (some (x1, S_13, S_14, S_15)) (kL (x1 + 1) (fun v18 => ih S_13 S_14 S_15 v18)))))))))) n
theorem f_X11_looked_l13_z (N : Nat) (SX : zRS) (SN : zHS) (SK : zHS) (SR : zRS) (SV : (Nat → Nat → Int64)) (SG : (Nat → Int32)) (SY : (Nat → Int32)) (SZ : (Nat → Int32)) (SD : (List (Nat × zPS))) (ST : zTS) (SH : zHS) (SE : (List ((Nat → Nat) × zQS))) (x1 : Int32) : f_X11_looked_l13 N SX SN SK SR SV SG SY SZ SD 0 ST SH SE x1 = none := rfl
theorem f_X11_looked_l13_s (N : Nat) (SX : zRS) (SN : zHS) (SK : zHS) (SR : zRS) (SV : (Nat → Nat → Int64)) (SG : (Nat → Int32)) (SY : (Nat → Int32)) (SZ : (Nat → Int32)) (SD : (List (Nat × zPS))) (n : Nat) (ST : zTS) (SH : zHS) (SE : (List ((Nat → Nat) × zQS))) (x1 : Int32) : f_X11_looked_l13 N SX SN SK SR SV SG SY SZ SD (n + 1) ST SH SE x1 = kB ((SN.1 10) ≤ x1) (some ((-5), ST, SH, SE)) (kB (12 ≤ x1) (some ((-5), ST, SH, SE)) (kC (f_X10_goesOn ST SH) (fun r6 => kB (r6 = 0) (some (x1, ST, SH, SE)) (kO (¬ (x1 < 0 ∨ 12 ≤ Int32.toNatClampNeg x1)) (kC (f_X1_person SN ((SN.2.1 6) (Int32.toNatClampNeg x1))) (fun r10 => kD4 (f_X10_step N ST SH SD SE r10) (fun r12 S_13 S_14 S_15 => kB (r12 = 0) (some (x1, S_13, S_14, S_15)) (kL (x1 + 1) (fun v18 => (f_X11_looked_l13 N SX SN SK SR SV SG SY SZ SD n) S_13 S_14 S_15 v18))))))))) := rfl
noncomputable def f_X11_looked (N : Nat) (SX : zRS) (SN : zHS) (SK : zHS) (ST : zTS) (SH : zHS) (SR : zRS) (SV : (Nat → Nat → Int64)) (SG : (Nat → Int32)) (SY : (Nat → Int32)) (SZ : (Nat → Int32)) (SD : (List (Nat × zPS))) (SE : (List ((Nat → Nat) × zQS))) : Option (Int32 × zTS × zHS × ((List ((Nat → Nat) × zQS)))) := kD (f_X10_start N ST SH SN SD) (fun S_1 S_2 => f_X11_looked_l13 N SX SN SK SR SV SG SY SZ SD N S_1 S_2 SE 0)
theorem wv_X11_looked : zWV RX11 yX11_looked cX11_looked 2 (some .int) 0 := ⟨wd_42_12, wd_42_13, wd_1_2, wd_42_14, by decide +kernel⟩
def rm_X11_looked : Room := { frames := 5, cells := 0, slots := 0, locals := 147 }
set_option maxHeartbeats 4000000 in
set_option maxRecDepth 100000 in
theorem c_X11_looked {l : Launch} {G : va_G} {ct : Nat → ClassId} {aX : Nat → Nat} {aN : Nat → Nat} {aK : Nat → Nat} {aT : Nat → Nat} {aH : Nat → Nat} {aR : Nat → Nat} {aV : Nat → Nat} {gG : Nat} {gY : Nat} {gZ : Nat} {N : Nat} {SX : zRS} {SN : zHS} {SK : zHS} {ST : zTS} {SH : zHS} {SR : zRS} {SV : (Nat → Nat → Int64)} {SG : (Nat → Int32)} {SY : (Nat → Int32)} {SZ : (Nat → Int32)} {SD : (List (Nat × zPS))} {SE : (List ((Nat → Nat) × zQS))} {r0 : Int32} {OT : zTS} {OH : zHS} {OE : (List ((Nat → Nat) × zQS))} (hf : f_X11_looked N SX SN SK ST SH SR SV SG SY SZ SD SE = some (r0, OT, OH, OE)) : zC l yX11_looked cX11_looked 2 (some .int) rm_X11_looked G ct [.ref (aX 200)] [wX aX (aN 200) (aK 200) (aT 200) (aR 200) (aV 6) gG gY gZ ct SX, wH aN ct SN, wH aK ct SK, wT aT (aH 200) ct ST, wH aH ct SH, wR aR ct SR, wV aV ct SV, wA gG 21 ct SG, wA gY 5 ct SY, wA gZ 5 ct SZ, wDp gG SD, wDh ct SE] [wX aX (aN 200) (aK 200) (aT 200) (aR 200) (aV 6) gG gY gZ ct SX, wH aN ct SN, wH aK ct SK, wT aT (aH 200) ct OT, wH aH ct OH, wR aR ct SR, wV aV ct SV, wA gG 21 ct SG, wA gY 5 ct SY, wA gZ 5 ct SZ, wDp gG SD, wDh ct OE] (some (.int r0)) 0 0 := by
  refine z_enter (own := RX11) (lv := [(0, .ref (aX 200))]) (by decide) rfl (Nat.le_of_ble_eq_true rfl) rfl ?_
  intro p e s m args below meth c A E hr hnm
  have L13 : ∀ (n13 : Nat) (ST : zTS) (SH : zHS) (SE : (List ((Nat → Nat) × zQS))) (x1 : Int32), f_X11_looked_l13 N SX SN SK SR SV SG SY SZ SD n13 ST SH SE x1 = some (r0, OT, OH, OE) → zJ p l e rm_X11_looked s m args below meth c (zQ G ct (some (.int r0)) [wX aX (aN 200) (aK 200) (aT 200) (aR 200) (aV 6) gG gY gZ ct SX, wH aN ct SN, wH aK ct SK, wT aT (aH 200) ct OT, wH aH ct OH, wR aR ct SR, wV aV ct SV, wA gG 21 ct SG, wA gY 5 ct SY, wA gZ 5 ct SZ, wDp gG SD, wDh ct OE] A below args s 0 0) A G 2 0 0 [wX aX (aN 200) (aK 200) (aT 200) (aR 200) (aV 6) gG gY gZ ct SX, wH aN ct SN, wH aK ct SK, wT aT (aH 200) ct ST, wH aH ct SH, wR aR ct SR, wV aV ct SV, wA gG 21 ct SG, wA gY 5 ct SY, wA gZ 5 ct SZ, wDp gG SD, wDh ct SE] [(0, .ref (aX 200)), (1, .int x1)] 13 [] := by
    intro n13
    induction n13 with
    | zero =>
      intro ST SH SE x1 hf
      rw [f_X11_looked_l13_z] at hf
      cases hf
    | succ n13 ih13 =>
      intro ST SH SE x1 hf
      rw [f_X11_looked_l13_s] at hf
      refine z_iload_n (pc := 13) (k0 := 1) E dX11_looked_13 rfl rfl ?_
      refine z_aload_n (pc := 14) (k0 := 0) E dX11_looked_14 rfl rfl ?_
      refine gX_0 (pc := 15) (i := 0) E rfl wd_1_16 dX11_looked_15 ?_
      refine gH_10 (pc := 18) (i := 1) E rfl wd_42_5 dX11_looked_18 ?_
      refine z_icmp_ge (pc := 21) (tgt := 74) E dX11_looked_21 (by decide) (fun c4 => ?_) (fun c4 => ?_)
      · have hf := kB_t hf c4
        refine z_bipush (pc := 74) (v := (-5)) E dX11_looked_74 (by decide) ?_
        cases hf
        exact z_iret E hr dX11_looked_76
      · have hf := kB_f hf c4
        refine z_iload_n (pc := 24) (k0 := 1) E dX11_looked_24 rfl rfl ?_
        refine z_bipush (pc := 25) (v := 12) E dX11_looked_25 (by decide) ?_
        refine z_icmp_ge (pc := 27) (tgt := 74) E dX11_looked_27 (by decide) (fun c5 => ?_) (fun c5 => ?_)
        · have hf := kB_t hf c5
          refine z_bipush (pc := 74) (v := (-5)) E dX11_looked_74 (by decide) ?_
          cases hf
          exact z_iret E hr dX11_looked_76
        · have hf := kB_f hf c5
          refine z_aload_n (pc := 30) (k0 := 0) E dX11_looked_30 rfl rfl ?_
          refine gX_2 (pc := 31) (i := 0) E rfl wd_1_21 dX11_looked_31 ?_
          obtain ⟨r6, h7, hf⟩ := kC_e hf
          refine z_callV0 (pc := 34) (is := [3, 4]) (n := 0) (As := []) (st := []) (st' := [.int r6]) (C2 := [wX aX (aN 200) (aK 200) (aT 200) (aR 200) (aV 6) gG gY gZ ct SX, wH aN ct SN, wH aK ct SK, wT aT (aH 200) ct ST, wH aH ct SH, wR aR ct SR, wV aV ct SV, wA gG 21 ct SG, wA gY 5 ct SY, wA gZ 5 ct SZ, wDp gG SD, wDh ct SE]) E (c_X10_goesOn (l := l) (G := G) (ct := ct) (aT := aT) (aH := aH) h7) wv_X10_goesOn wd_40_9 ⟨Nat.le_of_ble_eq_true rfl, Nat.le_of_ble_eq_true rfl, Nat.le_of_ble_eq_true rfl, Nat.le_of_ble_eq_true rfl⟩ rfl rfl rfl (by decide) rfl rfl (zrT (j := 0) rfl) rfl (Nat.le_of_ble_eq_true rfl) dX11_looked_34 rfl rfl ?_
          refine z_if_eq (pc := 37) (tgt := 66) E dX11_looked_37 (by decide) (fun c8 => ?_) (fun c8 => ?_)
          · have hf := kB_t hf c8
            refine z_iload_n (pc := 66) (k0 := 1) E dX11_looked_66 rfl rfl ?_
            cases hf
            exact z_iret E hr dX11_looked_67
          · have hf := kB_f hf c8
            refine z_aload_n (pc := 40) (k0 := 0) E dX11_looked_40 rfl rfl ?_
            refine gX_2 (pc := 41) (i := 0) E rfl wd_1_21 dX11_looked_41 ?_
            refine z_aload_n (pc := 44) (k0 := 0) E dX11_looked_44 rfl rfl ?_
            refine gX_0 (pc := 45) (i := 0) E rfl wd_1_16 dX11_looked_45 ?_
            refine z_aload_n (pc := 48) (k0 := 0) E dX11_looked_48 rfl rfl ?_
            refine gX_0 (pc := 49) (i := 0) E rfl wd_1_16 dX11_looked_49 ?_
            refine gH_6 (pc := 52) (i := 1) E rfl wd_42_6 dX11_looked_52 ?_
            refine z_iload_n (pc := 55) (k0 := 1) E dX11_looked_55 rfl rfl ?_
            obtain ⟨c9, hf⟩ := kO_e hf
            refine lH_6 (pc := 56) (i := 1) E rfl c9 dX11_looked_56 ?_
            obtain ⟨r10, h11, hf⟩ := kC_e hf
            refine z_callV0 (pc := 57) (is := [1]) (n := 1) (As := [.int ((SN.2.1 6) (Int32.toNatClampNeg x1))]) (st := [.ref (aT 200)]) (st' := [va_rf r10, .ref (aT 200)]) (C2 := [wX aX (aN 200) (aK 200) (aT 200) (aR 200) (aV 6) gG gY gZ ct SX, wH aN ct SN, wH aK ct SK, wT aT (aH 200) ct ST, wH aH ct SH, wR aR ct SR, wV aV ct SV, wA gG 21 ct SG, wA gY 5 ct SY, wA gZ 5 ct SZ, wDp gG SD, wDh ct SE]) E (c_X1_person (l := l) (G := G) (ct := ct) (aH := aN) h11) wv_X1_person wd_11_10 ⟨Nat.le_of_ble_eq_true rfl, Nat.le_of_ble_eq_true rfl, Nat.le_of_ble_eq_true rfl, Nat.le_of_ble_eq_true rfl⟩ rfl rfl rfl (by decide) rfl rfl (zrH (j := 0) rfl) rfl (Nat.le_of_ble_eq_true rfl) dX11_looked_57 rfl rfl ?_
            obtain ⟨r12, S_13, S_14, S_15, h16, hf⟩ := kD4_e hf
            refine z_callV0 (pc := 60) (is := [3, 4, 10, 11]) (n := 1) (As := [va_rf r10]) (st := []) (st' := [.int r12]) (C2 := [wX aX (aN 200) (aK 200) (aT 200) (aR 200) (aV 6) gG gY gZ ct SX, wH aN ct SN, wH aK ct SK, wT aT (aH 200) ct S_13, wH aH ct S_14, wR aR ct SR, wV aV ct SV, wA gG 21 ct SG, wA gY 5 ct SY, wA gZ 5 ct SZ, wDp gG SD, wDh ct S_15]) E (c_X10_step (l := l) (G := G) (ct := ct) (aT := aT) (aH := aH) (gG := gG) h16) wv_X10_step wd_40_10 ⟨Nat.le_of_ble_eq_true rfl, Nat.le_of_ble_eq_true rfl, Nat.le_of_ble_eq_true rfl, Nat.le_of_ble_eq_true rfl⟩ rfl rfl rfl (by decide) rfl rfl (zrT (j := 0) rfl) rfl (Nat.le_of_ble_eq_true rfl) dX11_looked_60 rfl rfl ?_
            refine z_if_ne (pc := 63) (tgt := 68) E dX11_looked_63 (by decide) (fun c17 => ?_) (fun c17 => ?_)
            · have hf := kB_f hf c17
              obtain ⟨v18, e_v18, hf⟩ := kL_e hf
              refine z_iinc (pc := 68) (k0 := 1) (v := v18) (lv' := [(1, .int v18), (0, .ref (aX 200))]) E dX11_looked_68 rfl e_v18 (by decide) rfl ?_
              refine z_goto (pc := 71) (tgt := 13) E dX11_looked_71 (by decide) ?_
              refine z_sub [1, 0] (lv' := [(0, .ref (aX 200)), (1, .int v18)]) rfl ?_
              exact ih13 S_13 S_14 S_15 v18 hf
            · have hf := kB_t hf c17
              refine z_iload_n (pc := 66) (k0 := 1) E dX11_looked_66 rfl rfl ?_
              cases hf
              exact z_iret E hr dX11_looked_67
  unfold f_X11_looked at hf
  refine z_aload_n (pc := 0) (k0 := 0) E dX11_looked_0 rfl rfl ?_
  refine gX_2 (pc := 1) (i := 0) E rfl wd_1_21 dX11_looked_1 ?_
  refine z_aload_n (pc := 4) (k0 := 0) E dX11_looked_4 rfl rfl ?_
  refine gX_0 (pc := 5) (i := 0) E rfl wd_1_16 dX11_looked_5 ?_
  obtain ⟨S_1, S_2, h3, hf⟩ := kD_e hf
  refine z_callV0 (pc := 8) (is := [3, 4, 1, 10]) (n := 1) (As := [.ref (aN 200)]) (st := []) (st' := []) (C2 := [wX aX (aN 200) (aK 200) (aT 200) (aR 200) (aV 6) gG gY gZ ct SX, wH aN ct SN, wH aK ct SK, wT aT (aH 200) ct S_1, wH aH ct S_2, wR aR ct SR, wV aV ct SV, wA gG 21 ct SG, wA gY 5 ct SY, wA gZ 5 ct SZ, wDp gG SD, wDh ct SE]) E (c_X10_start (l := l) (G := G) (ct := ct) (aT := aT) (aH := aH) (aK := aN) (gG := gG) h3) wv_X10_start wd_32_12 ⟨Nat.le_of_ble_eq_true rfl, Nat.le_of_ble_eq_true rfl, Nat.le_of_ble_eq_true rfl, Nat.le_of_ble_eq_true rfl⟩ rfl rfl rfl (by decide) rfl rfl (zrT (j := 0) rfl) rfl (Nat.le_of_ble_eq_true rfl) dX11_looked_8 rfl rfl ?_
  refine z_iconst (pc := 11) (v := 0) E dX11_looked_11 (by decide) ?_
  refine z_istore_n (pc := 12) (lv' := [(1, .int 0), (0, .ref (aX 200))]) E dX11_looked_12 rfl (by decide) rfl ?_
  refine z_sub [1, 0] (lv' := [(0, .ref (aX 200)), (1, .int 0)]) rfl ?_
  exact L13 N S_1 S_2 SE 0 hf
noncomputable def f_X11_holds (SX : zRS) (SN : zHS) (SK : zHS) (ST : zTS) (SH : zHS) (SR : zRS) (SV : (Nat → Nat → Int64)) (SG : (Nat → Int32)) (SY : (Nat → Int32)) (SZ : (Nat → Int32)) (SD : (List (Nat × zPS))) (SE : (List ((Nat → Nat) × zQS))) (a1 : Int32) (a2 : Int64) : Option Int32 := kB (a1 < 0) (some (0)) (kB (6 ≤ a1) (some (0)) (kO (¬ (a1 < 0 ∨ 6 ≤ Int32.toNatClampNeg a1)) (kB (((SX.2 5) (Int32.toNatClampNeg a1)) < 0) (some (0)) (kL (lg_cmp a2 0) (fun v5 => kB (v5 < 0) (some (0)) (kO (¬ (a1 < 0 ∨ 6 ≤ Int32.toNatClampNeg a1)) (kL (((SX.2 6) (Int32.toNatClampNeg a1)).toInt64) (fun v8 => kL (lg_cmp a2 v8) (fun v9 => kB (0 ≤ v9) (some (0)) (some (1)))))))))))
theorem wv_X11_holds : zWV RX11 yX11_holds cX11_holds 4 (some .boolean) 2 := ⟨wd_43_0, wd_43_1, wd_1_2, wd_43_2, by decide +kernel⟩
def rm_X11_holds : Room := { frames := 0, cells := 0, slots := 0, locals := 0 }
set_option maxHeartbeats 4000000 in
set_option maxRecDepth 100000 in
theorem c_X11_holds {l : Launch} {G : va_G} {ct : Nat → ClassId} {aX : Nat → Nat} {aN : Nat → Nat} {aK : Nat → Nat} {aT : Nat → Nat} {aH : Nat → Nat} {aR : Nat → Nat} {aV : Nat → Nat} {gG : Nat} {gY : Nat} {gZ : Nat} {SX : zRS} {SN : zHS} {SK : zHS} {ST : zTS} {SH : zHS} {SR : zRS} {SV : (Nat → Nat → Int64)} {SG : (Nat → Int32)} {SY : (Nat → Int32)} {SZ : (Nat → Int32)} {SD : (List (Nat × zPS))} {SE : (List ((Nat → Nat) × zQS))} {a1 : Int32} {a2 : Int64} {r0 : Int32} (hf : f_X11_holds SX SN SK ST SH SR SV SG SY SZ SD SE a1 a2 = some r0) : zC l yX11_holds cX11_holds 4 (some .boolean) rm_X11_holds G ct [.ref (aX 200), .int a1, .long a2] [wX aX (aN 200) (aK 200) (aT 200) (aR 200) (aV 6) gG gY gZ ct SX, wH aN ct SN, wH aK ct SK, wT aT (aH 200) ct ST, wH aH ct SH, wR aR ct SR, wV aV ct SV, wA gG 21 ct SG, wA gY 5 ct SY, wA gZ 5 ct SZ, wDp gG SD, wDh ct SE] [wX aX (aN 200) (aK 200) (aT 200) (aR 200) (aV 6) gG gY gZ ct SX, wH aN ct SN, wH aK ct SK, wT aT (aH 200) ct ST, wH aH ct SH, wR aR ct SR, wV aV ct SV, wA gG 21 ct SG, wA gY 5 ct SY, wA gZ 5 ct SZ, wDp gG SD, wDh ct SE] (some (.int r0)) 0 0 := by
  refine z_enter (own := RX11) (lv := [(0, .ref (aX 200)), (1, .int a1), (2, .long a2)]) (by decide) rfl (Nat.le_of_ble_eq_true rfl) rfl ?_
  intro p e s m args below meth c A E hr hnm
  unfold f_X11_holds at hf
  refine z_iload_n (pc := 0) (k0 := 1) E dX11_holds_0 rfl rfl ?_
  refine z_if_lt (pc := 1) (tgt := 41) E dX11_holds_1 (by decide) (fun c1 => ?_) (fun c1 => ?_)
  · have hf := kB_t hf c1
    refine z_iconst (pc := 41) (v := 0) E dX11_holds_41 (by decide) ?_
    cases hf
    exact z_zret E hr (by decide) dX11_holds_42
  · have hf := kB_f hf c1
    refine z_iload_n (pc := 4) (k0 := 1) E dX11_holds_4 rfl rfl ?_
    refine z_bipush (pc := 5) (v := 6) E dX11_holds_5 (by decide) ?_
    refine z_icmp_ge (pc := 7) (tgt := 41) E dX11_holds_7 (by decide) (fun c2 => ?_) (fun c2 => ?_)
    · have hf := kB_t hf c2
      refine z_iconst (pc := 41) (v := 0) E dX11_holds_41 (by decide) ?_
      cases hf
      exact z_zret E hr (by decide) dX11_holds_42
    · have hf := kB_f hf c2
      refine z_aload_n (pc := 10) (k0 := 0) E dX11_holds_10 rfl rfl ?_
      refine gX_5 (pc := 11) (i := 0) E rfl wd_2_6 dX11_holds_11 ?_
      refine z_iload_n (pc := 14) (k0 := 1) E dX11_holds_14 rfl rfl ?_
      obtain ⟨c3, hf⟩ := kO_e hf
      refine lX_5 (pc := 15) (i := 0) E rfl c3 dX11_holds_15 ?_
      refine z_if_lt (pc := 16) (tgt := 41) E dX11_holds_16 (by decide) (fun c4 => ?_) (fun c4 => ?_)
      · have hf := kB_t hf c4
        refine z_iconst (pc := 41) (v := 0) E dX11_holds_41 (by decide) ?_
        cases hf
        exact z_zret E hr (by decide) dX11_holds_42
      · have hf := kB_f hf c4
        refine z_lload_n (pc := 19) (k0 := 2) E dX11_holds_19 rfl rfl ?_
        refine z_lconst (pc := 20) (v := 0) E dX11_holds_20 (by decide) ?_
        obtain ⟨v5, e_v5, hf⟩ := kL_e hf
        refine z_lcmp (pc := 21) (v := v5) E dX11_holds_21 e_v5 ?_
        refine z_if_lt (pc := 22) (tgt := 41) E dX11_holds_22 (by decide) (fun c6 => ?_) (fun c6 => ?_)
        · have hf := kB_t hf c6
          refine z_iconst (pc := 41) (v := 0) E dX11_holds_41 (by decide) ?_
          cases hf
          exact z_zret E hr (by decide) dX11_holds_42
        · have hf := kB_f hf c6
          refine z_lload_n (pc := 25) (k0 := 2) E dX11_holds_25 rfl rfl ?_
          refine z_aload_n (pc := 26) (k0 := 0) E dX11_holds_26 rfl rfl ?_
          refine gX_6 (pc := 27) (i := 0) E rfl wd_2_7 dX11_holds_27 ?_
          refine z_iload_n (pc := 30) (k0 := 1) E dX11_holds_30 rfl rfl ?_
          obtain ⟨c7, hf⟩ := kO_e hf
          refine lX_6 (pc := 31) (i := 0) E rfl c7 dX11_holds_31 ?_
          obtain ⟨v8, e_v8, hf⟩ := kL_e hf
          refine z_i2l (pc := 32) (v := v8) E dX11_holds_32 e_v8 ?_
          obtain ⟨v9, e_v9, hf⟩ := kL_e hf
          refine z_lcmp (pc := 33) (v := v9) E dX11_holds_33 e_v9 ?_
          refine z_if_ge (pc := 34) (tgt := 41) E dX11_holds_34 (by decide) (fun c10 => ?_) (fun c10 => ?_)
          · have hf := kB_t hf c10
            refine z_iconst (pc := 41) (v := 0) E dX11_holds_41 (by decide) ?_
            cases hf
            exact z_zret E hr (by decide) dX11_holds_42
          · have hf := kB_f hf c10
            refine z_iconst (pc := 37) (v := 1) E dX11_holds_37 (by decide) ?_
            refine z_goto (pc := 38) (tgt := 42) E dX11_holds_38 (by decide) ?_
            cases hf
            exact z_zret E hr (by decide) dX11_holds_42
noncomputable def f_X11_judge_l36 (N : Nat) (SX : zRS) (SN : zHS) (SK : zHS) (ST : zTS) (SH : zHS) (SR : zRS) (SV : (Nat → Nat → Int64)) (SG : (Nat → Int32)) (SY : (Nat → Int32)) (SZ : (Nat → Int32)) (SD : (List (Nat × zPS))) (SE : (List ((Nat → Nat) × zQS))) : Nat → Int32 → Int32 → Int32 → Option Int32 := fun n => Nat.rec (motive := fun _ => Int32 → Int32 → Int32 → Option Int32) (fun _ _ _ => none) (fun _ ih x1 x2 x3 => kB ((SN.1 7) ≤ x3) (some ((-5))) (kL (x2.toInt64) (fun v8 => kL (x3.toInt64) (fun v9 => kL (v8 + v9) (fun v10 => kC (f_X11_holds SX SN SK ST SH SR SV SG SY SZ SD SE x1 v10) (fun r11 => kB (r11 = 0) (kL ((100 : Int32) + x3) (fun v22 => some (v22))) (kO (¬ (x1 < 0 ∨ 6 ≤ Int32.toNatClampNeg x1)) (kL (x2 + x3) (fun v15 => kO (¬ (v15 < 0 ∨ 60 ≤ Int32.toNatClampNeg v15)) (kO (¬ (x3 < 0 ∨ 7 ≤ Int32.toNatClampNeg x3)) (kL (((SN.2.1 2) (Int32.toNatClampNeg x3)).toInt64) (fun v18 => kL (lg_cmp (SV (Int32.toNatClampNeg x1) (Int32.toNatClampNeg v15)) v18) (fun v19 => kB (v19 = 0) (kL (x3 + 1) (fun v21 => ih x1 x2 v21)) (some (x3))))))))))))))) n
theorem f_X11_judge_l36_z (N : Nat) (SX : zRS) (SN : zHS) (SK : zHS) (ST : zTS) (SH : zHS) (SR : zRS) (SV : (Nat → Nat → Int64)) (SG : (Nat → Int32)) (SY : (Nat → Int32)) (SZ : (Nat → Int32)) (SD : (List (Nat × zPS))) (SE : (List ((Nat → Nat) × zQS))) (x1 : Int32) (x2 : Int32) (x3 : Int32) : f_X11_judge_l36 N SX SN SK ST SH SR SV SG SY SZ SD SE 0 x1 x2 x3 = none := rfl
theorem f_X11_judge_l36_s (N : Nat) (SX : zRS) (SN : zHS) (SK : zHS) (ST : zTS) (SH : zHS) (SR : zRS) (SV : (Nat → Nat → Int64)) (SG : (Nat → Int32)) (SY : (Nat → Int32)) (SZ : (Nat → Int32)) (SD : (List (Nat × zPS))) (SE : (List ((Nat → Nat) × zQS))) (n : Nat) (x1 : Int32) (x2 : Int32) (x3 : Int32) : f_X11_judge_l36 N SX SN SK ST SH SR SV SG SY SZ SD SE (n + 1) x1 x2 x3 = kB ((SN.1 7) ≤ x3) (some ((-5))) (kL (x2.toInt64) (fun v8 => kL (x3.toInt64) (fun v9 => kL (v8 + v9) (fun v10 => kC (f_X11_holds SX SN SK ST SH SR SV SG SY SZ SD SE x1 v10) (fun r11 => kB (r11 = 0) (kL ((100 : Int32) + x3) (fun v22 => some (v22))) (kO (¬ (x1 < 0 ∨ 6 ≤ Int32.toNatClampNeg x1)) (kL (x2 + x3) (fun v15 => kO (¬ (v15 < 0 ∨ 60 ≤ Int32.toNatClampNeg v15)) (kO (¬ (x3 < 0 ∨ 7 ≤ Int32.toNatClampNeg x3)) (kL (((SN.2.1 2) (Int32.toNatClampNeg x3)).toInt64) (fun v18 => kL (lg_cmp (SV (Int32.toNatClampNeg x1) (Int32.toNatClampNeg v15)) v18) (fun v19 => kB (v19 = 0) (kL (x3 + 1) (fun v21 => (f_X11_judge_l36 N SX SN SK ST SH SR SV SG SY SZ SD SE n) x1 x2 v21)) (some (x3)))))))))))))) := rfl
noncomputable def f_X11_judge (N : Nat) (SX : zRS) (SN : zHS) (SK : zHS) (ST : zTS) (SH : zHS) (SR : zRS) (SV : (Nat → Nat → Int64)) (SG : (Nat → Int32)) (SY : (Nat → Int32)) (SZ : (Nat → Int32)) (SD : (List (Nat × zPS))) (SE : (List ((Nat → Nat) × zQS))) (a1 : Int32) (a2 : Int32) : Option Int32 := kB (a1 < 0) (some ((-1))) (kB (a1 < 6) (kO (¬ (a1 < 0 ∨ 6 ≤ Int32.toNatClampNeg a1)) (kB (((SX.2 5) (Int32.toNatClampNeg a1)) < 0) (f_X11_judge_l36 N SX SN SK ST SH SR SV SG SY SZ SD SE N a1 a2 0) (kO (¬ (a1 < 0 ∨ 6 ≤ Int32.toNatClampNeg a1)) (kB (((SX.2 5) (Int32.toNatClampNeg a1)) = 3) (f_X11_judge_l36 N SX SN SK ST SH SR SV SG SY SZ SD SE N a1 a2 0) (some ((-12))))))) (some ((-1))))
theorem wv_X11_judge : zWV RX11 yX11_judge cX11_judge 4 (some .int) 2 := ⟨wd_42_20, wd_42_21, wd_1_2, wd_42_22, by decide +kernel⟩
def rm_X11_judge : Room := { frames := 1, cells := 0, slots := 0, locals := 23 }
set_option maxHeartbeats 4000000 in
set_option maxRecDepth 100000 in
theorem c_X11_judge {l : Launch} {G : va_G} {ct : Nat → ClassId} {aX : Nat → Nat} {aN : Nat → Nat} {aK : Nat → Nat} {aT : Nat → Nat} {aH : Nat → Nat} {aR : Nat → Nat} {aV : Nat → Nat} {gG : Nat} {gY : Nat} {gZ : Nat} {N : Nat} {SX : zRS} {SN : zHS} {SK : zHS} {ST : zTS} {SH : zHS} {SR : zRS} {SV : (Nat → Nat → Int64)} {SG : (Nat → Int32)} {SY : (Nat → Int32)} {SZ : (Nat → Int32)} {SD : (List (Nat × zPS))} {SE : (List ((Nat → Nat) × zQS))} {a1 : Int32} {a2 : Int32} {r0 : Int32} (hf : f_X11_judge N SX SN SK ST SH SR SV SG SY SZ SD SE a1 a2 = some r0) : zC l yX11_judge cX11_judge 4 (some .int) rm_X11_judge G ct [.ref (aX 200), .int a1, .int a2] [wX aX (aN 200) (aK 200) (aT 200) (aR 200) (aV 6) gG gY gZ ct SX, wH aN ct SN, wH aK ct SK, wT aT (aH 200) ct ST, wH aH ct SH, wR aR ct SR, wV aV ct SV, wA gG 21 ct SG, wA gY 5 ct SY, wA gZ 5 ct SZ, wDp gG SD, wDh ct SE] [wX aX (aN 200) (aK 200) (aT 200) (aR 200) (aV 6) gG gY gZ ct SX, wH aN ct SN, wH aK ct SK, wT aT (aH 200) ct ST, wH aH ct SH, wR aR ct SR, wV aV ct SV, wA gG 21 ct SG, wA gY 5 ct SY, wA gZ 5 ct SZ, wDp gG SD, wDh ct SE] (some (.int r0)) 0 0 := by
  refine z_enter (own := RX11) (lv := [(0, .ref (aX 200)), (1, .int a1), (2, .int a2)]) (by decide) rfl (Nat.le_of_ble_eq_true rfl) rfl ?_
  intro p e s m args below meth c A E hr hnm
  have L36 : ∀ (n36 : Nat) (x1 : Int32) (x2 : Int32) (x3 : Int32), f_X11_judge_l36 N SX SN SK ST SH SR SV SG SY SZ SD SE n36 x1 x2 x3 = some r0 → zJ p l e rm_X11_judge s m args below meth c (zQ G ct (some (.int r0)) [wX aX (aN 200) (aK 200) (aT 200) (aR 200) (aV 6) gG gY gZ ct SX, wH aN ct SN, wH aK ct SK, wT aT (aH 200) ct ST, wH aH ct SH, wR aR ct SR, wV aV ct SV, wA gG 21 ct SG, wA gY 5 ct SY, wA gZ 5 ct SZ, wDp gG SD, wDh ct SE] A below args s 0 0) A G 4 0 0 [wX aX (aN 200) (aK 200) (aT 200) (aR 200) (aV 6) gG gY gZ ct SX, wH aN ct SN, wH aK ct SK, wT aT (aH 200) ct ST, wH aH ct SH, wR aR ct SR, wV aV ct SV, wA gG 21 ct SG, wA gY 5 ct SY, wA gZ 5 ct SZ, wDp gG SD, wDh ct SE] [(0, .ref (aX 200)), (1, .int x1), (2, .int x2), (3, .int x3)] 36 [] := by
    intro n36
    induction n36 with
    | zero =>
      intro x1 x2 x3 hf
      rw [f_X11_judge_l36_z] at hf
      cases hf
    | succ n36 ih36 =>
      intro x1 x2 x3 hf
      rw [f_X11_judge_l36_s] at hf
      refine z_iload_n (pc := 36) (k0 := 3) E dX11_judge_36 rfl rfl ?_
      refine z_aload_n (pc := 37) (k0 := 0) E dX11_judge_37 rfl rfl ?_
      refine gX_0 (pc := 38) (i := 0) E rfl wd_1_16 dX11_judge_38 ?_
      refine gH_7 (pc := 41) (i := 1) E rfl wd_7_3 dX11_judge_41 ?_
      refine z_icmp_ge (pc := 44) (tgt := 97) E dX11_judge_44 (by decide) (fun c7 => ?_) (fun c7 => ?_)
      · have hf := kB_t hf c7
        refine z_bipush (pc := 97) (v := (-5)) E dX11_judge_97 (by decide) ?_
        cases hf
        exact z_iret E hr dX11_judge_99
      · have hf := kB_f hf c7
        refine z_aload_n (pc := 47) (k0 := 0) E dX11_judge_47 rfl rfl ?_
        refine z_iload_n (pc := 48) (k0 := 1) E dX11_judge_48 rfl rfl ?_
        refine z_iload_n (pc := 49) (k0 := 2) E dX11_judge_49 rfl rfl ?_
        obtain ⟨v8, e_v8, hf⟩ := kL_e hf
        refine z_i2l (pc := 50) (v := v8) E dX11_judge_50 e_v8 ?_
        refine z_iload_n (pc := 51) (k0 := 3) E dX11_judge_51 rfl rfl ?_
        obtain ⟨v9, e_v9, hf⟩ := kL_e hf
        refine z_i2l (pc := 52) (v := v9) E dX11_judge_52 e_v9 ?_
        obtain ⟨v10, e_v10, hf⟩ := kL_e hf
        refine z_ladd (pc := 53) (v := v10) E dX11_judge_53 e_v10 ?_
        obtain ⟨r11, h12, hf⟩ := kC_e hf
        refine z_callV0 (pc := 54) (is := [0, 1, 2, 3, 4, 5, 6, 7, 8, 9, 10, 11]) (n := 2) (As := [.int x1, .long v10]) (st := []) (st' := [.int r11]) (C2 := [wX aX (aN 200) (aK 200) (aT 200) (aR 200) (aV 6) gG gY gZ ct SX, wH aN ct SN, wH aK ct SK, wT aT (aH 200) ct ST, wH aH ct SH, wR aR ct SR, wV aV ct SV, wA gG 21 ct SG, wA gY 5 ct SY, wA gZ 5 ct SZ, wDp gG SD, wDh ct SE]) E (c_X11_holds (l := l) (G := G) (ct := ct) (aX := aX) (aN := aN) (aK := aK) (aT := aT) (aH := aH) (aR := aR) (aV := aV) (gG := gG) (gY := gY) (gZ := gZ) h12) wv_X11_holds wd_42_23 ⟨Nat.le_of_ble_eq_true rfl, Nat.le_of_ble_eq_true rfl, Nat.le_of_ble_eq_true rfl, Nat.le_of_ble_eq_true rfl⟩ rfl rfl rfl (by decide) rfl rfl (zrX (j := 0) rfl) rfl (Nat.le_of_ble_eq_true rfl) dX11_judge_54 rfl rfl ?_
        refine z_if_ne (pc := 57) (tgt := 65) E dX11_judge_57 (by decide) (fun c13 => ?_) (fun c13 => ?_)
        · have hf := kB_f hf c13
          refine z_aload_n (pc := 65) (k0 := 0) E dX11_judge_65 rfl rfl ?_
          refine gX_4 (pc := 66) (i := 0) E rfl wd_2_4 dX11_judge_66 ?_
          refine z_iload_n (pc := 69) (k0 := 1) E dX11_judge_69 rfl rfl ?_
          obtain ⟨c14, hf⟩ := kO_e hf
          refine vzA (pc := 70) (i := 6) E rfl c14 dX11_judge_70 ?_
          refine z_iload_n (pc := 71) (k0 := 2) E dX11_judge_71 rfl rfl ?_
          refine z_iload_n (pc := 72) (k0 := 3) E dX11_judge_72 rfl rfl ?_
          obtain ⟨v15, e_v15, hf⟩ := kL_e hf
          refine z_iadd (pc := 73) (v := v15) E dX11_judge_73 e_v15 ?_
          obtain ⟨c16, hf⟩ := kO_e hf
          refine vzL (pc := 74) (i := 6) E rfl (Nat.lt_of_not_le fun q => c14 (Or.inr q)) c16 dX11_judge_74 ?_
          refine z_aload_n (pc := 75) (k0 := 0) E dX11_judge_75 rfl rfl ?_
          refine gX_0 (pc := 76) (i := 0) E rfl wd_1_16 dX11_judge_76 ?_
          refine gH_2 (pc := 79) (i := 1) E rfl wd_7_6 dX11_judge_79 ?_
          refine z_iload_n (pc := 82) (k0 := 3) E dX11_judge_82 rfl rfl ?_
          obtain ⟨c17, hf⟩ := kO_e hf
          refine lH_2 (pc := 83) (i := 1) E rfl c17 dX11_judge_83 ?_
          obtain ⟨v18, e_v18, hf⟩ := kL_e hf
          refine z_i2l (pc := 84) (v := v18) E dX11_judge_84 e_v18 ?_
          obtain ⟨v19, e_v19, hf⟩ := kL_e hf
          refine z_lcmp (pc := 85) (v := v19) E dX11_judge_85 e_v19 ?_
          refine z_if_eq (pc := 86) (tgt := 91) E dX11_judge_86 (by decide) (fun c20 => ?_) (fun c20 => ?_)
          · have hf := kB_t hf c20
            obtain ⟨v21, e_v21, hf⟩ := kL_e hf
            refine z_iinc (pc := 91) (k0 := 3) (v := v21) (lv' := [(3, .int v21), (0, .ref (aX 200)), (1, .int x1), (2, .int x2)]) E dX11_judge_91 rfl e_v21 (by decide) rfl ?_
            refine z_goto (pc := 94) (tgt := 36) E dX11_judge_94 (by decide) ?_
            refine z_sub [1, 2, 3, 0] (lv' := [(0, .ref (aX 200)), (1, .int x1), (2, .int x2), (3, .int v21)]) rfl ?_
            exact ih36 x1 x2 v21 hf
          · have hf := kB_f hf c20
            refine z_iload_n (pc := 89) (k0 := 3) E dX11_judge_89 rfl rfl ?_
            cases hf
            exact z_iret E hr dX11_judge_90
        · have hf := kB_t hf c13
          refine z_bipush (pc := 60) (v := 100) E dX11_judge_60 (by decide) ?_
          refine z_iload_n (pc := 62) (k0 := 3) E dX11_judge_62 rfl rfl ?_
          obtain ⟨v22, e_v22, hf⟩ := kL_e hf
          refine z_iadd (pc := 63) (v := v22) E dX11_judge_63 e_v22 ?_
          cases hf
          exact z_iret E hr dX11_judge_64
  unfold f_X11_judge at hf
  refine z_iload_n (pc := 0) (k0 := 1) E dX11_judge_0 rfl rfl ?_
  refine z_if_lt (pc := 1) (tgt := 10) E dX11_judge_1 (by decide) (fun c1 => ?_) (fun c1 => ?_)
  · have hf := kB_t hf c1
    refine z_iconst (pc := 10) (v := (-1)) E dX11_judge_10 (by decide) ?_
    cases hf
    exact z_iret E hr dX11_judge_11
  · have hf := kB_f hf c1
    refine z_iload_n (pc := 4) (k0 := 1) E dX11_judge_4 rfl rfl ?_
    refine z_bipush (pc := 5) (v := 6) E dX11_judge_5 (by decide) ?_
    refine z_icmp_lt (pc := 7) (tgt := 12) E dX11_judge_7 (by decide) (fun c2 => ?_) (fun c2 => ?_)
    · have hf := kB_t hf c2
      refine z_aload_n (pc := 12) (k0 := 0) E dX11_judge_12 rfl rfl ?_
      refine gX_5 (pc := 13) (i := 0) E rfl wd_2_6 dX11_judge_13 ?_
      refine z_iload_n (pc := 16) (k0 := 1) E dX11_judge_16 rfl rfl ?_
      obtain ⟨c3, hf⟩ := kO_e hf
      refine lX_5 (pc := 17) (i := 0) E rfl c3 dX11_judge_17 ?_
      refine z_if_lt (pc := 18) (tgt := 34) E dX11_judge_18 (by decide) (fun c4 => ?_) (fun c4 => ?_)
      · have hf := kB_t hf c4
        refine z_iconst (pc := 34) (v := 0) E dX11_judge_34 (by decide) ?_
        refine z_istore_n (pc := 35) (lv' := [(3, .int 0), (0, .ref (aX 200)), (1, .int a1), (2, .int a2)]) E dX11_judge_35 rfl (by decide) rfl ?_
        refine z_sub [1, 2, 3, 0] (lv' := [(0, .ref (aX 200)), (1, .int a1), (2, .int a2), (3, .int 0)]) rfl ?_
        exact L36 N a1 a2 0 hf
      · have hf := kB_f hf c4
        refine z_aload_n (pc := 21) (k0 := 0) E dX11_judge_21 rfl rfl ?_
        refine gX_5 (pc := 22) (i := 0) E rfl wd_2_6 dX11_judge_22 ?_
        refine z_iload_n (pc := 25) (k0 := 1) E dX11_judge_25 rfl rfl ?_
        obtain ⟨c5, hf⟩ := kO_e hf
        refine lX_5 (pc := 26) (i := 0) E rfl c5 dX11_judge_26 ?_
        refine z_iconst (pc := 27) (v := 3) E dX11_judge_27 (by decide) ?_
        refine z_icmp_eq (pc := 28) (tgt := 34) E dX11_judge_28 (by decide) (fun c6 => ?_) (fun c6 => ?_)
        · have hf := kB_t hf c6
          refine z_iconst (pc := 34) (v := 0) E dX11_judge_34 (by decide) ?_
          refine z_istore_n (pc := 35) (lv' := [(3, .int 0), (0, .ref (aX 200)), (1, .int a1), (2, .int a2)]) E dX11_judge_35 rfl (by decide) rfl ?_
          refine z_sub [1, 2, 3, 0] (lv' := [(0, .ref (aX 200)), (1, .int a1), (2, .int a2), (3, .int 0)]) rfl ?_
          exact L36 N a1 a2 0 hf
        · have hf := kB_f hf c6
          refine z_bipush (pc := 31) (v := (-12)) E dX11_judge_31 (by decide) ?_
          cases hf
          exact z_iret E hr dX11_judge_33
    · have hf := kB_f hf c2
      refine z_iconst (pc := 10) (v := (-1)) E dX11_judge_10 (by decide) ?_
      cases hf
      exact z_iret E hr dX11_judge_11
noncomputable def f_X11_image (N : Nat) (SX : zRS) (SN : zHS) (SK : zHS) (ST : zTS) (SH : zHS) (SR : zRS) (SV : (Nat → Nat → Int64)) (SG : (Nat → Int32)) (SY : (Nat → Int32)) (SZ : (Nat → Int32)) (SD : (List (Nat × zPS))) (SE : (List ((Nat → Nat) × zQS))) : Option (Int32 × zRS × zHS) := kC (f_X1_copy N SK SN SD) (fun S_1 => kL (rSI SX 11 1) (fun SX_3 => some ((SN.1 8), SX_3, S_1)))
theorem wv_X11_image : zWV RX11 yX11_image cX11_image 1 (some .int) 0 := ⟨wd_43_12, wd_43_13, wd_1_2, wd_43_14, by decide +kernel⟩
def rm_X11_image : Room := { frames := 2, cells := 0, slots := 0, locals := 122 }
set_option maxHeartbeats 4000000 in
set_option maxRecDepth 100000 in
theorem c_X11_image {l : Launch} {G : va_G} {ct : Nat → ClassId} {aX : Nat → Nat} {aN : Nat → Nat} {aK : Nat → Nat} {aT : Nat → Nat} {aH : Nat → Nat} {aR : Nat → Nat} {aV : Nat → Nat} {gG : Nat} {gY : Nat} {gZ : Nat} {N : Nat} {SX : zRS} {SN : zHS} {SK : zHS} {ST : zTS} {SH : zHS} {SR : zRS} {SV : (Nat → Nat → Int64)} {SG : (Nat → Int32)} {SY : (Nat → Int32)} {SZ : (Nat → Int32)} {SD : (List (Nat × zPS))} {SE : (List ((Nat → Nat) × zQS))} {r0 : Int32} {OX : zRS} {OK : zHS} (hf : f_X11_image N SX SN SK ST SH SR SV SG SY SZ SD SE = some (r0, OX, OK)) : zC l yX11_image cX11_image 1 (some .int) rm_X11_image G ct [.ref (aX 200)] [wX aX (aN 200) (aK 200) (aT 200) (aR 200) (aV 6) gG gY gZ ct SX, wH aN ct SN, wH aK ct SK, wT aT (aH 200) ct ST, wH aH ct SH, wR aR ct SR, wV aV ct SV, wA gG 21 ct SG, wA gY 5 ct SY, wA gZ 5 ct SZ, wDp gG SD, wDh ct SE] [wX aX (aN 200) (aK 200) (aT 200) (aR 200) (aV 6) gG gY gZ ct OX, wH aN ct SN, wH aK ct OK, wT aT (aH 200) ct ST, wH aH ct SH, wR aR ct SR, wV aV ct SV, wA gG 21 ct SG, wA gY 5 ct SY, wA gZ 5 ct SZ, wDp gG SD, wDh ct SE] (some (.int r0)) 0 0 := by
  refine z_enter (own := RX11) (lv := [(0, .ref (aX 200))]) (by decide) rfl (Nat.le_of_ble_eq_true rfl) rfl ?_
  intro p e s m args below meth c A E hr hnm
  unfold f_X11_image at hf
  refine z_aload_n (pc := 0) (k0 := 0) E dX11_image_0 rfl rfl ?_
  refine gX_1 (pc := 1) (i := 0) E rfl wd_1_17 dX11_image_1 ?_
  refine z_aload_n (pc := 4) (k0 := 0) E dX11_image_4 rfl rfl ?_
  refine gX_0 (pc := 5) (i := 0) E rfl wd_1_16 dX11_image_5 ?_
  obtain ⟨S_1, h2, hf⟩ := kC_e hf
  refine z_callV0 (pc := 8) (is := [2, 1, 10]) (n := 1) (As := [.ref (aN 200)]) (st := []) (st' := []) (C2 := [wX aX (aN 200) (aK 200) (aT 200) (aR 200) (aV 6) gG gY gZ ct SX, wH aN ct SN, wH aK ct S_1, wT aT (aH 200) ct ST, wH aH ct SH, wR aR ct SR, wV aV ct SV, wA gG 21 ct SG, wA gY 5 ct SY, wA gZ 5 ct SZ, wDp gG SD, wDh ct SE]) E (c_X1_copy (l := l) (G := G) (ct := ct) (aH := aK) (aK := aN) (gG := gG) h2) wv_X1_copy wd_43_16 ⟨Nat.le_of_ble_eq_true rfl, Nat.le_of_ble_eq_true rfl, Nat.le_of_ble_eq_true rfl, Nat.le_of_ble_eq_true rfl⟩ rfl rfl rfl (by decide) rfl rfl (zrH (j := 0) rfl) rfl (Nat.le_of_ble_eq_true rfl) dX11_image_8 rfl rfl ?_
  refine z_aload_n (pc := 11) (k0 := 0) E dX11_image_11 rfl rfl ?_
  refine z_iconst (pc := 12) (v := 1) E dX11_image_12 (by decide) ?_
  obtain ⟨SX_3, e_SX_3, hf⟩ := kL_e hf
  refine pX_11 (pc := 13) (i := 0) (S1 := SX_3) E rfl (by decide) e_SX_3 wd_43_15 dX11_image_13 ?_
  show zJ p l e rm_X11_image s m args below meth c (zQ G ct (some (.int r0)) [wX aX (aN 200) (aK 200) (aT 200) (aR 200) (aV 6) gG gY gZ ct OX, wH aN ct SN, wH aK ct OK, wT aT (aH 200) ct ST, wH aH ct SH, wR aR ct SR, wV aV ct SV, wA gG 21 ct SG, wA gY 5 ct SY, wA gZ 5 ct SZ, wDp gG SD, wDh ct SE] A below args s 0 0) A G 1 0 0 [wX aX (aN 200) (aK 200) (aT 200) (aR 200) (aV 6) gG gY gZ ct SX_3, wH aN ct SN, wH aK ct S_1, wT aT (aH 200) ct ST, wH aH ct SH, wR aR ct SR, wV aV ct SV, wA gG 21 ct SG, wA gY 5 ct SY, wA gZ 5 ct SZ, wDp gG SD, wDh ct SE] [(0, .ref (aX 200))] 16 []
  refine z_aload_n (pc := 16) (k0 := 0) E dX11_image_16 rfl rfl ?_
  refine gX_0 (pc := 17) (i := 0) E rfl wd_1_16 dX11_image_17 ?_
  refine gH_8 (pc := 20) (i := 1) E rfl wd_7_19 dX11_image_20 ?_
  cases hf
  exact z_iret E hr dX11_image_23
noncomputable def f_X11_undo (N : Nat) (SX : zRS) (SN : zHS) (SK : zHS) (ST : zTS) (SH : zHS) (SR : zRS) (SV : (Nat → Nat → Int64)) (SG : (Nat → Int32)) (SY : (Nat → Int32)) (SZ : (Nat → Int32)) (SD : (List (Nat × zPS))) (SE : (List ((Nat → Nat) × zQS))) : Option (Int32 × zHS) := kB ((SX.1 11) = 0) (some ((-3), SN)) (kC (f_X1_copy N SN SK SD) (fun S_2 => some ((S_2.1 8), S_2)))
theorem wv_X11_undo : zWV RX11 yX11_undo cX11_undo 1 (some .int) 0 := ⟨wd_43_22, wd_43_23, wd_1_2, wd_44_0, by decide +kernel⟩
def rm_X11_undo : Room := { frames := 2, cells := 0, slots := 0, locals := 122 }
set_option maxHeartbeats 4000000 in
set_option maxRecDepth 100000 in
theorem c_X11_undo {l : Launch} {G : va_G} {ct : Nat → ClassId} {aX : Nat → Nat} {aN : Nat → Nat} {aK : Nat → Nat} {aT : Nat → Nat} {aH : Nat → Nat} {aR : Nat → Nat} {aV : Nat → Nat} {gG : Nat} {gY : Nat} {gZ : Nat} {N : Nat} {SX : zRS} {SN : zHS} {SK : zHS} {ST : zTS} {SH : zHS} {SR : zRS} {SV : (Nat → Nat → Int64)} {SG : (Nat → Int32)} {SY : (Nat → Int32)} {SZ : (Nat → Int32)} {SD : (List (Nat × zPS))} {SE : (List ((Nat → Nat) × zQS))} {r0 : Int32} {ON : zHS} (hf : f_X11_undo N SX SN SK ST SH SR SV SG SY SZ SD SE = some (r0, ON)) : zC l yX11_undo cX11_undo 1 (some .int) rm_X11_undo G ct [.ref (aX 200)] [wX aX (aN 200) (aK 200) (aT 200) (aR 200) (aV 6) gG gY gZ ct SX, wH aN ct SN, wH aK ct SK, wT aT (aH 200) ct ST, wH aH ct SH, wR aR ct SR, wV aV ct SV, wA gG 21 ct SG, wA gY 5 ct SY, wA gZ 5 ct SZ, wDp gG SD, wDh ct SE] [wX aX (aN 200) (aK 200) (aT 200) (aR 200) (aV 6) gG gY gZ ct SX, wH aN ct ON, wH aK ct SK, wT aT (aH 200) ct ST, wH aH ct SH, wR aR ct SR, wV aV ct SV, wA gG 21 ct SG, wA gY 5 ct SY, wA gZ 5 ct SZ, wDp gG SD, wDh ct SE] (some (.int r0)) 0 0 := by
  refine z_enter (own := RX11) (lv := [(0, .ref (aX 200))]) (by decide) rfl (Nat.le_of_ble_eq_true rfl) rfl ?_
  intro p e s m args below meth c A E hr hnm
  unfold f_X11_undo at hf
  refine z_aload_n (pc := 0) (k0 := 0) E dX11_undo_0 rfl rfl ?_
  refine gX_11 (pc := 1) (i := 0) E rfl wd_43_15 dX11_undo_1 ?_
  refine z_if_ne (pc := 4) (tgt := 10) E dX11_undo_4 (by decide) (fun c1 => ?_) (fun c1 => ?_)
  · have hf := kB_f hf c1
    refine z_aload_n (pc := 10) (k0 := 0) E dX11_undo_10 rfl rfl ?_
    refine gX_0 (pc := 11) (i := 0) E rfl wd_1_16 dX11_undo_11 ?_
    refine z_aload_n (pc := 14) (k0 := 0) E dX11_undo_14 rfl rfl ?_
    refine gX_1 (pc := 15) (i := 0) E rfl wd_1_17 dX11_undo_15 ?_
    obtain ⟨S_2, h3, hf⟩ := kC_e hf
    refine z_callV0 (pc := 18) (is := [1, 2, 10]) (n := 1) (As := [.ref (aK 200)]) (st := []) (st' := []) (C2 := [wX aX (aN 200) (aK 200) (aT 200) (aR 200) (aV 6) gG gY gZ ct SX, wH aN ct S_2, wH aK ct SK, wT aT (aH 200) ct ST, wH aH ct SH, wR aR ct SR, wV aV ct SV, wA gG 21 ct SG, wA gY 5 ct SY, wA gZ 5 ct SZ, wDp gG SD, wDh ct SE]) E (c_X1_copy (l := l) (G := G) (ct := ct) (aH := aN) (aK := aK) (gG := gG) h3) wv_X1_copy wd_43_16 ⟨Nat.le_of_ble_eq_true rfl, Nat.le_of_ble_eq_true rfl, Nat.le_of_ble_eq_true rfl, Nat.le_of_ble_eq_true rfl⟩ rfl rfl rfl (by decide) rfl rfl (zrH (j := 0) rfl) rfl (Nat.le_of_ble_eq_true rfl) dX11_undo_18 rfl rfl ?_
    refine z_aload_n (pc := 21) (k0 := 0) E dX11_undo_21 rfl rfl ?_
    refine gX_0 (pc := 22) (i := 0) E rfl wd_1_16 dX11_undo_22 ?_
    refine gH_8 (pc := 25) (i := 1) E rfl wd_7_19 dX11_undo_25 ?_
    cases hf
    exact z_iret E hr dX11_undo_28
  · have hf := kB_t hf c1
    refine z_bipush (pc := 7) (v := (-3)) E dX11_undo_7 (by decide) ?_
    cases hf
    exact z_iret E hr dX11_undo_9
noncomputable def f_X11_act (SX : zRS) (SN : zHS) (SK : zHS) (ST : zTS) (SH : zHS) (SR : zRS) (SV : (Nat → Nat → Int64)) (SG : (Nat → Int32)) (SY : (Nat → Int32)) (SZ : (Nat → Int32)) (SD : (List (Nat × zPS))) (SE : (List ((Nat → Nat) × zQS))) (a1 : Int32) (a2 : Int32) (a3 : Int32) : Option (Int32 × ((Nat → Int32))) := kO (¬ ((20 : Int32) < 0 ∨ 21 ≤ Int32.toNatClampNeg 20)) (kL (upd SG (Int32.toNatClampNeg 20) 0) (fun SG_2 => kC (f_X1_person SN a1) (fun r3 => kN r3 (some (0, SG_2)) (fun w5 => kB (a2 = 0) (kC (plook SD w5) (fun pv8 => kD (f_v_hears pv8 SG_2 a3) (fun r13 S_14 => some (r13, S_14)))) (kB (a2 = 1) (kC (plook SD w5) (fun pv24 => kD (f_v_gives pv24 SG_2 a3) (fun r29 S_30 => some (r29, S_30)))) (kB (a2 = 2) (kC (plook SD w5) (fun pv40 => kD (f_v_tells pv40 SG_2 a3) (fun r45 S_46 => some (r45, S_46)))) (some (0, SG_2))))))))
theorem wv_X11_act : zWV RX11 yX11_act cX11_act 5 (some .int) 3 := ⟨wd_44_6, wd_44_7, wd_1_2, wd_44_8, by decide +kernel⟩
def rm_X11_act : Room := { frames := 7, cells := 0, slots := 0, locals := 148 }
set_option maxHeartbeats 4000000 in
set_option maxRecDepth 100000 in
theorem c_X11_act {l : Launch} {G : va_G} {ct : Nat → ClassId} {aX : Nat → Nat} {aN : Nat → Nat} {aK : Nat → Nat} {aT : Nat → Nat} {aH : Nat → Nat} {aR : Nat → Nat} {aV : Nat → Nat} {gG : Nat} {gY : Nat} {gZ : Nat} {SX : zRS} {SN : zHS} {SK : zHS} {ST : zTS} {SH : zHS} {SR : zRS} {SV : (Nat → Nat → Int64)} {SG : (Nat → Int32)} {SY : (Nat → Int32)} {SZ : (Nat → Int32)} {SD : (List (Nat × zPS))} {SE : (List ((Nat → Nat) × zQS))} {a1 : Int32} {a2 : Int32} {a3 : Int32} {r0 : Int32} {OG : (Nat → Int32)} (hf : f_X11_act SX SN SK ST SH SR SV SG SY SZ SD SE a1 a2 a3 = some (r0, OG)) : zC l yX11_act cX11_act 5 (some .int) rm_X11_act G ct [.ref (aX 200), .int a1, .int a2, .int a3] [wX aX (aN 200) (aK 200) (aT 200) (aR 200) (aV 6) gG gY gZ ct SX, wH aN ct SN, wH aK ct SK, wT aT (aH 200) ct ST, wH aH ct SH, wR aR ct SR, wV aV ct SV, wA gG 21 ct SG, wA gY 5 ct SY, wA gZ 5 ct SZ, wDp gG SD, wDh ct SE] [wX aX (aN 200) (aK 200) (aT 200) (aR 200) (aV 6) gG gY gZ ct SX, wH aN ct SN, wH aK ct SK, wT aT (aH 200) ct ST, wH aH ct SH, wR aR ct SR, wV aV ct SV, wA gG 21 ct OG, wA gY 5 ct SY, wA gZ 5 ct SZ, wDp gG SD, wDh ct SE] (some (.int r0)) 0 0 := by
  refine z_enter (own := RX11) (lv := [(0, .ref (aX 200)), (1, .int a1), (2, .int a2), (3, .int a3)]) (by decide) rfl (Nat.le_of_ble_eq_true rfl) rfl ?_
  intro p e s m args below meth c A E hr hnm
  unfold f_X11_act at hf
  refine z_aload_n (pc := 0) (k0 := 0) E dX11_act_0 rfl rfl ?_
  refine gX_7 (pc := 1) (i := 0) E rfl wd_2_8 dX11_act_1 ?_
  refine z_bipush (pc := 4) (v := 20) E dX11_act_4 (by decide) ?_
  refine z_iconst (pc := 6) (v := 0) E dX11_act_6 (by decide) ?_
  obtain ⟨c1, hf⟩ := kO_e hf
  obtain ⟨SG_2, e_SG_2, hf⟩ := kL_e hf
  refine sA_0 (pc := 7) (i := 7) (S1 := SG_2) E rfl c1 e_SG_2 dX11_act_7 ?_
  show zJ p l e rm_X11_act s m args below meth c (zQ G ct (some (.int r0)) [wX aX (aN 200) (aK 200) (aT 200) (aR 200) (aV 6) gG gY gZ ct SX, wH aN ct SN, wH aK ct SK, wT aT (aH 200) ct ST, wH aH ct SH, wR aR ct SR, wV aV ct SV, wA gG 21 ct OG, wA gY 5 ct SY, wA gZ 5 ct SZ, wDp gG SD, wDh ct SE] A below args s 0 0) A G 5 0 0 [wX aX (aN 200) (aK 200) (aT 200) (aR 200) (aV 6) gG gY gZ ct SX, wH aN ct SN, wH aK ct SK, wT aT (aH 200) ct ST, wH aH ct SH, wR aR ct SR, wV aV ct SV, wA gG 21 ct SG_2, wA gY 5 ct SY, wA gZ 5 ct SZ, wDp gG SD, wDh ct SE] [(0, .ref (aX 200)), (1, .int a1), (2, .int a2), (3, .int a3)] 8 []
  refine z_aload_n (pc := 8) (k0 := 0) E dX11_act_8 rfl rfl ?_
  refine gX_0 (pc := 9) (i := 0) E rfl wd_1_16 dX11_act_9 ?_
  refine z_iload_n (pc := 12) (k0 := 1) E dX11_act_12 rfl rfl ?_
  obtain ⟨r3, h4, hf⟩ := kC_e hf
  refine z_callV0 (pc := 13) (is := [1]) (n := 1) (As := [.int a1]) (st := []) (st' := [va_rf r3]) (C2 := [wX aX (aN 200) (aK 200) (aT 200) (aR 200) (aV 6) gG gY gZ ct SX, wH aN ct SN, wH aK ct SK, wT aT (aH 200) ct ST, wH aH ct SH, wR aR ct SR, wV aV ct SV, wA gG 21 ct SG_2, wA gY 5 ct SY, wA gZ 5 ct SZ, wDp gG SD, wDh ct SE]) E (c_X1_person (l := l) (G := G) (ct := ct) (aH := aN) h4) wv_X1_person wd_11_10 ⟨Nat.le_of_ble_eq_true rfl, Nat.le_of_ble_eq_true rfl, Nat.le_of_ble_eq_true rfl, Nat.le_of_ble_eq_true rfl⟩ rfl rfl rfl (by decide) rfl rfl (zrH (j := 0) rfl) rfl (Nat.le_of_ble_eq_true rfl) dX11_act_13 rfl rfl ?_
  refine z_qstore (pc := 16) (lv' := [(4, va_rf r3), (0, .ref (aX 200)), (1, .int a1), (2, .int a2), (3, .int a3)]) E dX11_act_16 (by decide) rfl ?_
  refine z_qload (pc := 18) (k0 := 0) E dX11_act_18 rfl ?_
  refine z_ifnonnull (pc := 20) (tgt := 25) E dX11_act_20 (by decide) (fun w5 e6 => ?_) (fun e6 => ?_)
  · have hf := kN_s hf e6
    have hf_e6 := hf
    subst e6
    have hf := hf_e6
    refine z_iload_n (pc := 25) (k0 := 3) E dX11_act_25 rfl rfl ?_
    by_cases c7 : a2 = 0
    · have hf := kB_t hf c7
      refine z_tswIn (pc := 26) (tgt := 52) (v := 0) (n := 0) (off := 26) E dX11_act_26 c7 (by decide) (by decide) (by decide) (by decide) (by decide) ?_
      refine z_aload (pc := 52) (k0 := 0) E dX11_act_52 rfl ?_
      refine z_iload_n (pc := 54) (k0 := 4) E dX11_act_54 rfl rfl ?_
      obtain ⟨pv8, hp9, hf⟩ := kC_e hf
      obtain ⟨DA10, DB11, eD12⟩ := wDp_at (g := gG) hp9
      obtain ⟨r13, S_14, h15, hf⟩ := kD_e hf
      refine z_world (Cs' := [wX aX (aN 200) (aK 200) (aT 200) (aR 200) (aV 6) gG gY gZ ct SX, wH aN ct SN, wH aK ct SK, wT aT (aH 200) ct ST, wH aH ct SH, wR aR ct SR, wV aV ct SV, wA gG 21 ct SG_2, wA gY 5 ct SY, wA gZ 5 ct SZ, DA10, wPa gG w5 pv8, DB11, wDh ct SE]) (by rw [eD12]; simp [zfl]) ?_
      have K16 : zJ p l e rm_X11_act s m args below meth c (zQ G ct (some (.int r0)) [wX aX (aN 200) (aK 200) (aT 200) (aR 200) (aV 6) gG gY gZ ct SX, wH aN ct SN, wH aK ct SK, wT aT (aH 200) ct ST, wH aH ct SH, wR aR ct SR, wV aV ct SV, wA gG 21 ct OG, wA gY 5 ct SY, wA gZ 5 ct SZ, wDp gG SD, wDh ct SE] A below args s 0 0) A G 5 0 0 [wX aX (aN 200) (aK 200) (aT 200) (aR 200) (aV 6) gG gY gZ ct SX, wH aN ct SN, wH aK ct SK, wT aT (aH 200) ct ST, wH aH ct SH, wR aR ct SR, wV aV ct SV, wA gG 21 ct S_14, wA gY 5 ct SY, wA gZ 5 ct SZ, wDp gG SD, wDh ct SE] [(4, .ref w5), (0, .ref (aX 200)), (1, .int a1), (2, .int a2), (3, .int a3)] 58 [.int r13] := by
        cases hf
        exact z_iret E hr dX11_act_58
      by_cases k17 : pv8.1 = 1
      · have h15 := f_v_hears_1 k17 h15
        refine z_callU (x := ⟨"MoreStory$Parent", "hears", "(I)I"⟩) (owner := "MoreStory$Parent") (pc := 55) (is := [11, 7]) (n := 1) (As := [.int a3]) (st := []) (st' := [.int r13]) (C2 := [wX aX (aN 200) (aK 200) (aT 200) (aR 200) (aV 6) gG gY gZ ct SX, wH aN ct SN, wH aK ct SK, wT aT (aH 200) ct ST, wH aH ct SH, wR aR ct SR, wV aV ct SV, wA gG 21 ct S_14, wA gY 5 ct SY, wA gZ 5 ct SZ, DA10, wPa gG w5 pv8, DB11, wDh ct SE]) E (c_X4_hears (l := l) (G := G) (ct := ct) (gG := gG) (aP := w5) h15) wd_44_9 wd_44_10 wd_45_8 wd_44_22 wd_8_22 wd_44_23 rfl ⟨by decide, by decide, by decide +kernel⟩ ⟨Nat.le_of_ble_eq_true rfl, Nat.le_of_ble_eq_true rfl, Nat.le_of_ble_eq_true rfl, Nat.le_of_ble_eq_true rfl⟩ rfl rfl rfl (by decide) rfl rfl (zrP6 k17 (j := 0) rfl) rfl (Nat.le_of_ble_eq_true rfl) dX11_act_55 rfl rfl ?_
        refine z_world (Cs' := [wX aX (aN 200) (aK 200) (aT 200) (aR 200) (aV 6) gG gY gZ ct SX, wH aN ct SN, wH aK ct SK, wT aT (aH 200) ct ST, wH aH ct SH, wR aR ct SR, wV aV ct SV, wA gG 21 ct S_14, wA gY 5 ct SY, wA gZ 5 ct SZ, wDp gG SD, wDh ct SE]) (by rw [eD12]; simp [zfl]) ?_
        exact K16
      by_cases k18 : pv8.1 = 2
      · have h15 := f_v_hears_2 k18 h15
        refine z_callO (x := ⟨"MoreStory$Parent", "hears", "(I)I"⟩) (owner := "MoreStory$Parent") (pc := 55) (is := [11, 7]) (n := 1) (As := [.int a3]) (st := []) (st' := [.int r13]) (C2 := [wX aX (aN 200) (aK 200) (aT 200) (aR 200) (aV 6) gG gY gZ ct SX, wH aN ct SN, wH aK ct SK, wT aT (aH 200) ct ST, wH aH ct SH, wR aR ct SR, wV aV ct SV, wA gG 21 ct S_14, wA gY 5 ct SY, wA gZ 5 ct SZ, DA10, wPa gG w5 pv8, DB11, wDh ct SE]) E (c_X7_hears (l := l) (G := G) (ct := ct) (gG := gG) (aP := w5) h15) wd_44_9 wd_44_10 wd_44_11 wd_45_9 wd_44_13 wd_8_7 wd_44_14 wd_44_23 ⟨by decide, by decide, by decide +kernel⟩ ⟨Nat.le_of_ble_eq_true rfl, Nat.le_of_ble_eq_true rfl, Nat.le_of_ble_eq_true rfl, Nat.le_of_ble_eq_true rfl⟩ rfl rfl rfl (by decide) rfl rfl (zrP7 k18 (j := 0) rfl) rfl (Nat.le_of_ble_eq_true rfl) dX11_act_55 rfl rfl ?_
        refine z_world (Cs' := [wX aX (aN 200) (aK 200) (aT 200) (aR 200) (aV 6) gG gY gZ ct SX, wH aN ct SN, wH aK ct SK, wT aT (aH 200) ct ST, wH aH ct SH, wR aR ct SR, wV aV ct SV, wA gG 21 ct S_14, wA gY 5 ct SY, wA gZ 5 ct SZ, wDp gG SD, wDh ct SE]) (by rw [eD12]; simp [zfl]) ?_
        exact K16
      by_cases k19 : pv8.1 = 3
      · have h15 := f_v_hears_3 k19 h15
        refine z_callU (x := ⟨"MoreStory$Parent", "hears", "(I)I"⟩) (owner := "MoreStory$Parent") (pc := 55) (is := [11, 7]) (n := 1) (As := [.int a3]) (st := []) (st' := [.int r13]) (C2 := [wX aX (aN 200) (aK 200) (aT 200) (aR 200) (aV 6) gG gY gZ ct SX, wH aN ct SN, wH aK ct SK, wT aT (aH 200) ct ST, wH aH ct SH, wR aR ct SR, wV aV ct SV, wA gG 21 ct S_14, wA gY 5 ct SY, wA gZ 5 ct SZ, DA10, wPa gG w5 pv8, DB11, wDh ct SE]) E (c_X4_hears (l := l) (G := G) (ct := ct) (gG := gG) (aP := w5) h15) wd_44_9 wd_44_10 wd_45_10 wd_44_22 wd_8_22 wd_44_23 rfl ⟨by decide, by decide, by decide +kernel⟩ ⟨Nat.le_of_ble_eq_true rfl, Nat.le_of_ble_eq_true rfl, Nat.le_of_ble_eq_true rfl, Nat.le_of_ble_eq_true rfl⟩ rfl rfl rfl (by decide) rfl rfl (zrP8 k19 (j := 0) rfl) rfl (Nat.le_of_ble_eq_true rfl) dX11_act_55 rfl rfl ?_
        refine z_world (Cs' := [wX aX (aN 200) (aK 200) (aT 200) (aR 200) (aV 6) gG gY gZ ct SX, wH aN ct SN, wH aK ct SK, wT aT (aH 200) ct ST, wH aH ct SH, wR aR ct SR, wV aV ct SV, wA gG 21 ct S_14, wA gY 5 ct SY, wA gZ 5 ct SZ, wDp gG SD, wDh ct SE]) (by rw [eD12]; simp [zfl]) ?_
        exact K16
      by_cases k20 : pv8.1 = 4
      · have h15 := f_v_hears_4 k20 h15
        refine z_callO (x := ⟨"MoreStory$Parent", "hears", "(I)I"⟩) (owner := "MoreStory$Parent") (pc := 55) (is := [11, 7]) (n := 1) (As := [.int a3]) (st := []) (st' := [.int r13]) (C2 := [wX aX (aN 200) (aK 200) (aT 200) (aR 200) (aV 6) gG gY gZ ct SX, wH aN ct SN, wH aK ct SK, wT aT (aH 200) ct ST, wH aH ct SH, wR aR ct SR, wV aV ct SV, wA gG 21 ct S_14, wA gY 5 ct SY, wA gZ 5 ct SZ, DA10, wPa gG w5 pv8, DB11, wDh ct SE]) E (c_X3_hears (l := l) (G := G) (ct := ct) (gG := gG) (aP := w5) h15) wd_44_9 wd_44_10 wd_44_11 wd_45_0 wd_45_1 wd_8_13 wd_45_2 wd_44_23 ⟨by decide, by decide, by decide +kernel⟩ ⟨Nat.le_of_ble_eq_true rfl, Nat.le_of_ble_eq_true rfl, Nat.le_of_ble_eq_true rfl, Nat.le_of_ble_eq_true rfl⟩ rfl rfl rfl (by decide) rfl rfl (zrP3 k20 (j := 0) rfl) rfl (Nat.le_of_ble_eq_true rfl) dX11_act_55 rfl rfl ?_
        refine z_world (Cs' := [wX aX (aN 200) (aK 200) (aT 200) (aR 200) (aV 6) gG gY gZ ct SX, wH aN ct SN, wH aK ct SK, wT aT (aH 200) ct ST, wH aH ct SH, wR aR ct SR, wV aV ct SV, wA gG 21 ct S_14, wA gY 5 ct SY, wA gZ 5 ct SZ, wDp gG SD, wDh ct SE]) (by rw [eD12]; simp [zfl]) ?_
        exact K16
      by_cases k21 : pv8.1 = 5
      · have h15 := f_v_hears_5 k21 h15
        refine z_callO (x := ⟨"MoreStory$Parent", "hears", "(I)I"⟩) (owner := "MoreStory$Parent") (pc := 55) (is := [11, 7]) (n := 1) (As := [.int a3]) (st := []) (st' := [.int r13]) (C2 := [wX aX (aN 200) (aK 200) (aT 200) (aR 200) (aV 6) gG gY gZ ct SX, wH aN ct SN, wH aK ct SK, wT aT (aH 200) ct ST, wH aH ct SH, wR aR ct SR, wV aV ct SV, wA gG 21 ct S_14, wA gY 5 ct SY, wA gZ 5 ct SZ, DA10, wPa gG w5 pv8, DB11, wDh ct SE]) E (c_X7_hears (l := l) (G := G) (ct := ct) (gG := gG) (aP := w5) h15) wd_44_9 wd_44_10 wd_44_11 wd_44_12 wd_44_13 wd_8_7 wd_44_14 wd_44_23 ⟨by decide, by decide, by decide +kernel⟩ ⟨Nat.le_of_ble_eq_true rfl, Nat.le_of_ble_eq_true rfl, Nat.le_of_ble_eq_true rfl, Nat.le_of_ble_eq_true rfl⟩ rfl rfl rfl (by decide) rfl rfl (zrP0 k21 (j := 0) rfl) rfl (Nat.le_of_ble_eq_true rfl) dX11_act_55 rfl rfl ?_
        refine z_world (Cs' := [wX aX (aN 200) (aK 200) (aT 200) (aR 200) (aV 6) gG gY gZ ct SX, wH aN ct SN, wH aK ct SK, wT aT (aH 200) ct ST, wH aH ct SH, wR aR ct SR, wV aV ct SV, wA gG 21 ct S_14, wA gY 5 ct SY, wA gZ 5 ct SZ, wDp gG SD, wDh ct SE]) (by rw [eD12]; simp [zfl]) ?_
        exact K16
      by_cases k22 : pv8.1 = 6
      · have h15 := f_v_hears_6 k22 h15
        refine z_callO (x := ⟨"MoreStory$Parent", "hears", "(I)I"⟩) (owner := "MoreStory$Parent") (pc := 55) (is := [11, 7]) (n := 1) (As := [.int a3]) (st := []) (st' := [.int r13]) (C2 := [wX aX (aN 200) (aK 200) (aT 200) (aR 200) (aV 6) gG gY gZ ct SX, wH aN ct SN, wH aK ct SK, wT aT (aH 200) ct ST, wH aH ct SH, wR aR ct SR, wV aV ct SV, wA gG 21 ct S_14, wA gY 5 ct SY, wA gZ 5 ct SZ, DA10, wPa gG w5 pv8, DB11, wDh ct SE]) E (c_X9_hears (l := l) (G := G) (ct := ct) (gG := gG) (aP := w5) h15) wd_44_9 wd_44_10 wd_44_11 wd_45_11 wd_45_12 wd_8_19 wd_45_13 wd_44_23 ⟨by decide, by decide, by decide +kernel⟩ ⟨Nat.le_of_ble_eq_true rfl, Nat.le_of_ble_eq_true rfl, Nat.le_of_ble_eq_true rfl, Nat.le_of_ble_eq_true rfl⟩ rfl rfl rfl (by decide) rfl rfl (zrP9 k22 (j := 0) rfl) rfl (Nat.le_of_ble_eq_true rfl) dX11_act_55 rfl rfl ?_
        refine z_world (Cs' := [wX aX (aN 200) (aK 200) (aT 200) (aR 200) (aV 6) gG gY gZ ct SX, wH aN ct SN, wH aK ct SK, wT aT (aH 200) ct ST, wH aH ct SH, wR aR ct SR, wV aV ct SV, wA gG 21 ct S_14, wA gY 5 ct SY, wA gZ 5 ct SZ, wDp gG SD, wDh ct SE]) (by rw [eD12]; simp [zfl]) ?_
        exact K16
      have h15 := f_v_hears_e k17 k18 k19 k20 k21 k22 h15
      refine z_callV0 (pc := 55) (is := [11, 7]) (n := 1) (As := [.int a3]) (st := []) (st' := [.int r13]) (C2 := [wX aX (aN 200) (aK 200) (aT 200) (aR 200) (aV 6) gG gY gZ ct SX, wH aN ct SN, wH aK ct SK, wT aT (aH 200) ct ST, wH aH ct SH, wR aR ct SR, wV aV ct SV, wA gG 21 ct S_14, wA gY 5 ct SY, wA gZ 5 ct SZ, DA10, wPa gG w5 pv8, DB11, wDh ct SE]) E (c_X4_hears (l := l) (G := G) (ct := ct) (gG := gG) (aP := w5) h15) wv_X4_hears wd_45_6 ⟨Nat.le_of_ble_eq_true rfl, Nat.le_of_ble_eq_true rfl, Nat.le_of_ble_eq_true rfl, Nat.le_of_ble_eq_true rfl⟩ rfl rfl rfl (by decide) rfl rfl (zrP4 k17 k18 k19 k20 k21 k22 (j := 0) rfl) rfl (Nat.le_of_ble_eq_true rfl) dX11_act_55 rfl rfl ?_
      refine z_world (Cs' := [wX aX (aN 200) (aK 200) (aT 200) (aR 200) (aV 6) gG gY gZ ct SX, wH aN ct SN, wH aK ct SK, wT aT (aH 200) ct ST, wH aH ct SH, wR aR ct SR, wV aV ct SV, wA gG 21 ct S_14, wA gY 5 ct SY, wA gZ 5 ct SZ, wDp gG SD, wDh ct SE]) (by rw [eD12]; simp [zfl]) ?_
      exact K16
    have hf := kB_f hf c7
    by_cases c23 : a2 = 1
    · have hf := kB_t hf c23
      refine z_tswIn (pc := 26) (tgt := 59) (v := 1) (n := 1) (off := 33) E dX11_act_26 c23 (by decide) (by decide) (by decide) (by decide) (by decide) ?_
      refine z_aload (pc := 59) (k0 := 0) E dX11_act_59 rfl ?_
      refine z_iload_n (pc := 61) (k0 := 4) E dX11_act_61 rfl rfl ?_
      obtain ⟨pv24, hp25, hf⟩ := kC_e hf
      obtain ⟨DA26, DB27, eD28⟩ := wDp_at (g := gG) hp25
      obtain ⟨r29, S_30, h31, hf⟩ := kD_e hf
      refine z_world (Cs' := [wX aX (aN 200) (aK 200) (aT 200) (aR 200) (aV 6) gG gY gZ ct SX, wH aN ct SN, wH aK ct SK, wT aT (aH 200) ct ST, wH aH ct SH, wR aR ct SR, wV aV ct SV, wA gG 21 ct SG_2, wA gY 5 ct SY, wA gZ 5 ct SZ, DA26, wPa gG w5 pv24, DB27, wDh ct SE]) (by rw [eD28]; simp [zfl]) ?_
      have K32 : zJ p l e rm_X11_act s m args below meth c (zQ G ct (some (.int r0)) [wX aX (aN 200) (aK 200) (aT 200) (aR 200) (aV 6) gG gY gZ ct SX, wH aN ct SN, wH aK ct SK, wT aT (aH 200) ct ST, wH aH ct SH, wR aR ct SR, wV aV ct SV, wA gG 21 ct OG, wA gY 5 ct SY, wA gZ 5 ct SZ, wDp gG SD, wDh ct SE] A below args s 0 0) A G 5 0 0 [wX aX (aN 200) (aK 200) (aT 200) (aR 200) (aV 6) gG gY gZ ct SX, wH aN ct SN, wH aK ct SK, wT aT (aH 200) ct ST, wH aH ct SH, wR aR ct SR, wV aV ct SV, wA gG 21 ct S_30, wA gY 5 ct SY, wA gZ 5 ct SZ, wDp gG SD, wDh ct SE] [(4, .ref w5), (0, .ref (aX 200)), (1, .int a1), (2, .int a2), (3, .int a3)] 65 [.int r29] := by
        cases hf
        exact z_iret E hr dX11_act_65
      by_cases k33 : pv24.1 = 1
      · have h31 := f_v_gives_1 k33 h31
        refine z_callO (x := ⟨"MoreStory$Parent", "gives", "(I)I"⟩) (owner := "MoreStory$Parent") (pc := 62) (is := [11, 7]) (n := 1) (As := [.int a3]) (st := []) (st' := [.int r29]) (C2 := [wX aX (aN 200) (aK 200) (aT 200) (aR 200) (aV 6) gG gY gZ ct SX, wH aN ct SN, wH aK ct SK, wT aT (aH 200) ct ST, wH aH ct SH, wR aR ct SR, wV aV ct SV, wA gG 21 ct S_30, wA gY 5 ct SY, wA gZ 5 ct SZ, DA26, wPa gG w5 pv24, DB27, wDh ct SE]) E (c_X6_gives (l := l) (G := G) (ct := ct) (gG := gG) (aP := w5) h31) wd_45_19 wd_45_20 wd_46_12 wd_47_3 wd_46_18 wd_8_4 wd_46_19 wd_45_23 ⟨by decide, by decide, by decide +kernel⟩ ⟨Nat.le_of_ble_eq_true rfl, Nat.le_of_ble_eq_true rfl, Nat.le_of_ble_eq_true rfl, Nat.le_of_ble_eq_true rfl⟩ rfl rfl rfl (by decide) rfl rfl (zrP6 k33 (j := 0) rfl) rfl (Nat.le_of_ble_eq_true rfl) dX11_act_62 rfl rfl ?_
        refine z_world (Cs' := [wX aX (aN 200) (aK 200) (aT 200) (aR 200) (aV 6) gG gY gZ ct SX, wH aN ct SN, wH aK ct SK, wT aT (aH 200) ct ST, wH aH ct SH, wR aR ct SR, wV aV ct SV, wA gG 21 ct S_30, wA gY 5 ct SY, wA gZ 5 ct SZ, wDp gG SD, wDh ct SE]) (by rw [eD28]; simp [zfl]) ?_
        exact K32
      by_cases k34 : pv24.1 = 2
      · have h31 := f_v_gives_2 k34 h31
        refine z_callU (x := ⟨"MoreStory$Parent", "gives", "(I)I"⟩) (owner := "MoreStory$Parent") (pc := 62) (is := [11, 7]) (n := 1) (As := [.int a3]) (st := []) (st' := [.int r29]) (C2 := [wX aX (aN 200) (aK 200) (aT 200) (aR 200) (aV 6) gG gY gZ ct SX, wH aN ct SN, wH aK ct SK, wT aT (aH 200) ct ST, wH aH ct SH, wR aR ct SR, wV aV ct SV, wA gG 21 ct S_30, wA gY 5 ct SY, wA gZ 5 ct SZ, DA26, wPa gG w5 pv24, DB27, wDh ct SE]) E (c_X4_gives (l := l) (G := G) (ct := ct) (gG := gG) (aP := w5) h31) wd_45_19 wd_45_20 wd_47_4 wd_45_22 wd_8_22 wd_45_23 rfl ⟨by decide, by decide, by decide +kernel⟩ ⟨Nat.le_of_ble_eq_true rfl, Nat.le_of_ble_eq_true rfl, Nat.le_of_ble_eq_true rfl, Nat.le_of_ble_eq_true rfl⟩ rfl rfl rfl (by decide) rfl rfl (zrP7 k34 (j := 0) rfl) rfl (Nat.le_of_ble_eq_true rfl) dX11_act_62 rfl rfl ?_
        refine z_world (Cs' := [wX aX (aN 200) (aK 200) (aT 200) (aR 200) (aV 6) gG gY gZ ct SX, wH aN ct SN, wH aK ct SK, wT aT (aH 200) ct ST, wH aH ct SH, wR aR ct SR, wV aV ct SV, wA gG 21 ct S_30, wA gY 5 ct SY, wA gZ 5 ct SZ, wDp gG SD, wDh ct SE]) (by rw [eD28]; simp [zfl]) ?_
        exact K32
      by_cases k35 : pv24.1 = 3
      · have h31 := f_v_gives_3 k35 h31
        refine z_callU (x := ⟨"MoreStory$Parent", "gives", "(I)I"⟩) (owner := "MoreStory$Parent") (pc := 62) (is := [11, 7]) (n := 1) (As := [.int a3]) (st := []) (st' := [.int r29]) (C2 := [wX aX (aN 200) (aK 200) (aT 200) (aR 200) (aV 6) gG gY gZ ct SX, wH aN ct SN, wH aK ct SK, wT aT (aH 200) ct ST, wH aH ct SH, wR aR ct SR, wV aV ct SV, wA gG 21 ct S_30, wA gY 5 ct SY, wA gZ 5 ct SZ, DA26, wPa gG w5 pv24, DB27, wDh ct SE]) E (c_X4_gives (l := l) (G := G) (ct := ct) (gG := gG) (aP := w5) h31) wd_45_19 wd_45_20 wd_47_5 wd_45_22 wd_8_22 wd_45_23 rfl ⟨by decide, by decide, by decide +kernel⟩ ⟨Nat.le_of_ble_eq_true rfl, Nat.le_of_ble_eq_true rfl, Nat.le_of_ble_eq_true rfl, Nat.le_of_ble_eq_true rfl⟩ rfl rfl rfl (by decide) rfl rfl (zrP8 k35 (j := 0) rfl) rfl (Nat.le_of_ble_eq_true rfl) dX11_act_62 rfl rfl ?_
        refine z_world (Cs' := [wX aX (aN 200) (aK 200) (aT 200) (aR 200) (aV 6) gG gY gZ ct SX, wH aN ct SN, wH aK ct SK, wT aT (aH 200) ct ST, wH aH ct SH, wR aR ct SR, wV aV ct SV, wA gG 21 ct S_30, wA gY 5 ct SY, wA gZ 5 ct SZ, wDp gG SD, wDh ct SE]) (by rw [eD28]; simp [zfl]) ?_
        exact K32
      by_cases k36 : pv24.1 = 4
      · have h31 := f_v_gives_4 k36 h31
        refine z_callO (x := ⟨"MoreStory$Parent", "gives", "(I)I"⟩) (owner := "MoreStory$Parent") (pc := 62) (is := [11, 7]) (n := 1) (As := [.int a3]) (st := []) (st' := [.int r29]) (C2 := [wX aX (aN 200) (aK 200) (aT 200) (aR 200) (aV 6) gG gY gZ ct SX, wH aN ct SN, wH aK ct SK, wT aT (aH 200) ct ST, wH aH ct SH, wR aR ct SR, wV aV ct SV, wA gG 21 ct S_30, wA gY 5 ct SY, wA gZ 5 ct SZ, DA26, wPa gG w5 pv24, DB27, wDh ct SE]) E (c_X3_gives (l := l) (G := G) (ct := ct) (gG := gG) (aP := w5) h31) wd_45_19 wd_45_20 wd_46_12 wd_46_13 wd_46_14 wd_8_13 wd_46_15 wd_45_23 ⟨by decide, by decide, by decide +kernel⟩ ⟨Nat.le_of_ble_eq_true rfl, Nat.le_of_ble_eq_true rfl, Nat.le_of_ble_eq_true rfl, Nat.le_of_ble_eq_true rfl⟩ rfl rfl rfl (by decide) rfl rfl (zrP3 k36 (j := 0) rfl) rfl (Nat.le_of_ble_eq_true rfl) dX11_act_62 rfl rfl ?_
        refine z_world (Cs' := [wX aX (aN 200) (aK 200) (aT 200) (aR 200) (aV 6) gG gY gZ ct SX, wH aN ct SN, wH aK ct SK, wT aT (aH 200) ct ST, wH aH ct SH, wR aR ct SR, wV aV ct SV, wA gG 21 ct S_30, wA gY 5 ct SY, wA gZ 5 ct SZ, wDp gG SD, wDh ct SE]) (by rw [eD28]; simp [zfl]) ?_
        exact K32
      by_cases k37 : pv24.1 = 5
      · have h31 := f_v_gives_5 k37 h31
        refine z_callU (x := ⟨"MoreStory$Parent", "gives", "(I)I"⟩) (owner := "MoreStory$Parent") (pc := 62) (is := [11, 7]) (n := 1) (As := [.int a3]) (st := []) (st' := [.int r29]) (C2 := [wX aX (aN 200) (aK 200) (aT 200) (aR 200) (aV 6) gG gY gZ ct SX, wH aN ct SN, wH aK ct SK, wT aT (aH 200) ct ST, wH aH ct SH, wR aR ct SR, wV aV ct SV, wA gG 21 ct S_30, wA gY 5 ct SY, wA gZ 5 ct SZ, DA26, wPa gG w5 pv24, DB27, wDh ct SE]) E (c_X4_gives (l := l) (G := G) (ct := ct) (gG := gG) (aP := w5) h31) wd_45_19 wd_45_20 wd_45_21 wd_45_22 wd_8_22 wd_45_23 rfl ⟨by decide, by decide, by decide +kernel⟩ ⟨Nat.le_of_ble_eq_true rfl, Nat.le_of_ble_eq_true rfl, Nat.le_of_ble_eq_true rfl, Nat.le_of_ble_eq_true rfl⟩ rfl rfl rfl (by decide) rfl rfl (zrP0 k37 (j := 0) rfl) rfl (Nat.le_of_ble_eq_true rfl) dX11_act_62 rfl rfl ?_
        refine z_world (Cs' := [wX aX (aN 200) (aK 200) (aT 200) (aR 200) (aV 6) gG gY gZ ct SX, wH aN ct SN, wH aK ct SK, wT aT (aH 200) ct ST, wH aH ct SH, wR aR ct SR, wV aV ct SV, wA gG 21 ct S_30, wA gY 5 ct SY, wA gZ 5 ct SZ, wDp gG SD, wDh ct SE]) (by rw [eD28]; simp [zfl]) ?_
        exact K32
      by_cases k38 : pv24.1 = 6
      · have h31 := f_v_gives_6 k38 h31
        refine z_callO (x := ⟨"MoreStory$Parent", "gives", "(I)I"⟩) (owner := "MoreStory$Parent") (pc := 62) (is := [11, 7]) (n := 1) (As := [.int a3]) (st := []) (st' := [.int r29]) (C2 := [wX aX (aN 200) (aK 200) (aT 200) (aR 200) (aV 6) gG gY gZ ct SX, wH aN ct SN, wH aK ct SK, wT aT (aH 200) ct ST, wH aH ct SH, wR aR ct SR, wV aV ct SV, wA gG 21 ct S_30, wA gY 5 ct SY, wA gZ 5 ct SZ, DA26, wPa gG w5 pv24, DB27, wDh ct SE]) E (c_X9_gives (l := l) (G := G) (ct := ct) (gG := gG) (aP := w5) h31) wd_45_19 wd_45_20 wd_46_12 wd_47_6 wd_47_7 wd_8_19 wd_47_8 wd_45_23 ⟨by decide, by decide, by decide +kernel⟩ ⟨Nat.le_of_ble_eq_true rfl, Nat.le_of_ble_eq_true rfl, Nat.le_of_ble_eq_true rfl, Nat.le_of_ble_eq_true rfl⟩ rfl rfl rfl (by decide) rfl rfl (zrP9 k38 (j := 0) rfl) rfl (Nat.le_of_ble_eq_true rfl) dX11_act_62 rfl rfl ?_
        refine z_world (Cs' := [wX aX (aN 200) (aK 200) (aT 200) (aR 200) (aV 6) gG gY gZ ct SX, wH aN ct SN, wH aK ct SK, wT aT (aH 200) ct ST, wH aH ct SH, wR aR ct SR, wV aV ct SV, wA gG 21 ct S_30, wA gY 5 ct SY, wA gZ 5 ct SZ, wDp gG SD, wDh ct SE]) (by rw [eD28]; simp [zfl]) ?_
        exact K32
      have h31 := f_v_gives_e k33 k34 k35 k36 k37 k38 h31
      refine z_callV0 (pc := 62) (is := [11, 7]) (n := 1) (As := [.int a3]) (st := []) (st' := [.int r29]) (C2 := [wX aX (aN 200) (aK 200) (aT 200) (aR 200) (aV 6) gG gY gZ ct SX, wH aN ct SN, wH aK ct SK, wT aT (aH 200) ct ST, wH aH ct SH, wR aR ct SR, wV aV ct SV, wA gG 21 ct S_30, wA gY 5 ct SY, wA gZ 5 ct SZ, DA26, wPa gG w5 pv24, DB27, wDh ct SE]) E (c_X4_gives (l := l) (G := G) (ct := ct) (gG := gG) (aP := w5) h31) wv_X4_gives wd_47_1 ⟨Nat.le_of_ble_eq_true rfl, Nat.le_of_ble_eq_true rfl, Nat.le_of_ble_eq_true rfl, Nat.le_of_ble_eq_true rfl⟩ rfl rfl rfl (by decide) rfl rfl (zrP4 k33 k34 k35 k36 k37 k38 (j := 0) rfl) rfl (Nat.le_of_ble_eq_true rfl) dX11_act_62 rfl rfl ?_
      refine z_world (Cs' := [wX aX (aN 200) (aK 200) (aT 200) (aR 200) (aV 6) gG gY gZ ct SX, wH aN ct SN, wH aK ct SK, wT aT (aH 200) ct ST, wH aH ct SH, wR aR ct SR, wV aV ct SV, wA gG 21 ct S_30, wA gY 5 ct SY, wA gZ 5 ct SZ, wDp gG SD, wDh ct SE]) (by rw [eD28]; simp [zfl]) ?_
      exact K32
    have hf := kB_f hf c23
    by_cases c39 : a2 = 2
    · have hf := kB_t hf c39
      refine z_tswIn (pc := 26) (tgt := 66) (v := 2) (n := 2) (off := 40) E dX11_act_26 c39 (by decide) (by decide) (by decide) (by decide) (by decide) ?_
      refine z_aload (pc := 66) (k0 := 0) E dX11_act_66 rfl ?_
      refine z_iload_n (pc := 68) (k0 := 4) E dX11_act_68 rfl rfl ?_
      obtain ⟨pv40, hp41, hf⟩ := kC_e hf
      obtain ⟨DA42, DB43, eD44⟩ := wDp_at (g := gG) hp41
      obtain ⟨r45, S_46, h47, hf⟩ := kD_e hf
      refine z_world (Cs' := [wX aX (aN 200) (aK 200) (aT 200) (aR 200) (aV 6) gG gY gZ ct SX, wH aN ct SN, wH aK ct SK, wT aT (aH 200) ct ST, wH aH ct SH, wR aR ct SR, wV aV ct SV, wA gG 21 ct SG_2, wA gY 5 ct SY, wA gZ 5 ct SZ, DA42, wPa gG w5 pv40, DB43, wDh ct SE]) (by rw [eD44]; simp [zfl]) ?_
      have K48 : zJ p l e rm_X11_act s m args below meth c (zQ G ct (some (.int r0)) [wX aX (aN 200) (aK 200) (aT 200) (aR 200) (aV 6) gG gY gZ ct SX, wH aN ct SN, wH aK ct SK, wT aT (aH 200) ct ST, wH aH ct SH, wR aR ct SR, wV aV ct SV, wA gG 21 ct OG, wA gY 5 ct SY, wA gZ 5 ct SZ, wDp gG SD, wDh ct SE] A below args s 0 0) A G 5 0 0 [wX aX (aN 200) (aK 200) (aT 200) (aR 200) (aV 6) gG gY gZ ct SX, wH aN ct SN, wH aK ct SK, wT aT (aH 200) ct ST, wH aH ct SH, wR aR ct SR, wV aV ct SV, wA gG 21 ct S_46, wA gY 5 ct SY, wA gZ 5 ct SZ, wDp gG SD, wDh ct SE] [(4, .ref w5), (0, .ref (aX 200)), (1, .int a1), (2, .int a2), (3, .int a3)] 72 [.int r45] := by
        cases hf
        exact z_iret E hr dX11_act_72
      by_cases k49 : pv40.1 = 1
      · have h47 := f_v_tells_1 k49 h47
        refine z_callU (x := ⟨"MoreStory$Parent", "tells", "(I)I"⟩) (owner := "MoreStory$Parent") (pc := 69) (is := [11, 7]) (n := 1) (As := [.int a3]) (st := []) (st' := [.int r45]) (C2 := [wX aX (aN 200) (aK 200) (aT 200) (aR 200) (aV 6) gG gY gZ ct SX, wH aN ct SN, wH aK ct SK, wT aT (aH 200) ct ST, wH aH ct SH, wR aR ct SR, wV aV ct SV, wA gG 21 ct S_46, wA gY 5 ct SY, wA gZ 5 ct SZ, DA42, wPa gG w5 pv40, DB43, wDh ct SE]) E (c_X4_tells (l := l) (G := G) (ct := ct) (gG := gG) (aP := w5) h47) wd_47_9 wd_47_10 wd_48_3 wd_47_22 wd_8_22 wd_47_20 rfl ⟨by decide, by decide, by decide +kernel⟩ ⟨Nat.le_of_ble_eq_true rfl, Nat.le_of_ble_eq_true rfl, Nat.le_of_ble_eq_true rfl, Nat.le_of_ble_eq_true rfl⟩ rfl rfl rfl (by decide) rfl rfl (zrP6 k49 (j := 0) rfl) rfl (Nat.le_of_ble_eq_true rfl) dX11_act_69 rfl rfl ?_
        refine z_world (Cs' := [wX aX (aN 200) (aK 200) (aT 200) (aR 200) (aV 6) gG gY gZ ct SX, wH aN ct SN, wH aK ct SK, wT aT (aH 200) ct ST, wH aH ct SH, wR aR ct SR, wV aV ct SV, wA gG 21 ct S_46, wA gY 5 ct SY, wA gZ 5 ct SZ, wDp gG SD, wDh ct SE]) (by rw [eD44]; simp [zfl]) ?_
        exact K48
      by_cases k50 : pv40.1 = 2
      · have h47 := f_v_tells_2 k50 h47
        refine z_callU (x := ⟨"MoreStory$Parent", "tells", "(I)I"⟩) (owner := "MoreStory$Parent") (pc := 69) (is := [11, 7]) (n := 1) (As := [.int a3]) (st := []) (st' := [.int r45]) (C2 := [wX aX (aN 200) (aK 200) (aT 200) (aR 200) (aV 6) gG gY gZ ct SX, wH aN ct SN, wH aK ct SK, wT aT (aH 200) ct ST, wH aH ct SH, wR aR ct SR, wV aV ct SV, wA gG 21 ct S_46, wA gY 5 ct SY, wA gZ 5 ct SZ, DA42, wPa gG w5 pv40, DB43, wDh ct SE]) E (c_X4_tells (l := l) (G := G) (ct := ct) (gG := gG) (aP := w5) h47) wd_47_9 wd_47_10 wd_48_4 wd_47_22 wd_8_22 wd_47_20 rfl ⟨by decide, by decide, by decide +kernel⟩ ⟨Nat.le_of_ble_eq_true rfl, Nat.le_of_ble_eq_true rfl, Nat.le_of_ble_eq_true rfl, Nat.le_of_ble_eq_true rfl⟩ rfl rfl rfl (by decide) rfl rfl (zrP7 k50 (j := 0) rfl) rfl (Nat.le_of_ble_eq_true rfl) dX11_act_69 rfl rfl ?_
        refine z_world (Cs' := [wX aX (aN 200) (aK 200) (aT 200) (aR 200) (aV 6) gG gY gZ ct SX, wH aN ct SN, wH aK ct SK, wT aT (aH 200) ct ST, wH aH ct SH, wR aR ct SR, wV aV ct SV, wA gG 21 ct S_46, wA gY 5 ct SY, wA gZ 5 ct SZ, wDp gG SD, wDh ct SE]) (by rw [eD44]; simp [zfl]) ?_
        exact K48
      by_cases k51 : pv40.1 = 3
      · have h47 := f_v_tells_3 k51 h47
        refine z_callO (x := ⟨"MoreStory$Parent", "tells", "(I)I"⟩) (owner := "MoreStory$Parent") (pc := 69) (is := [11, 7]) (n := 1) (As := [.int a3]) (st := []) (st' := [.int r45]) (C2 := [wX aX (aN 200) (aK 200) (aT 200) (aR 200) (aV 6) gG gY gZ ct SX, wH aN ct SN, wH aK ct SK, wT aT (aH 200) ct ST, wH aH ct SH, wR aR ct SR, wV aV ct SV, wA gG 21 ct S_46, wA gY 5 ct SY, wA gZ 5 ct SZ, DA42, wPa gG w5 pv40, DB43, wDh ct SE]) E (c_X8_tells (l := l) (G := G) (ct := ct) (gG := gG) (aP := w5) h47) wd_47_9 wd_47_10 wd_47_11 wd_48_5 wd_48_6 wd_8_10 wd_48_7 wd_47_20 ⟨by decide, by decide, by decide +kernel⟩ ⟨Nat.le_of_ble_eq_true rfl, Nat.le_of_ble_eq_true rfl, Nat.le_of_ble_eq_true rfl, Nat.le_of_ble_eq_true rfl⟩ rfl rfl rfl (by decide) rfl rfl (zrP8 k51 (j := 0) rfl) rfl (Nat.le_of_ble_eq_true rfl) dX11_act_69 rfl rfl ?_
        refine z_world (Cs' := [wX aX (aN 200) (aK 200) (aT 200) (aR 200) (aV 6) gG gY gZ ct SX, wH aN ct SN, wH aK ct SK, wT aT (aH 200) ct ST, wH aH ct SH, wR aR ct SR, wV aV ct SV, wA gG 21 ct S_46, wA gY 5 ct SY, wA gZ 5 ct SZ, wDp gG SD, wDh ct SE]) (by rw [eD44]; simp [zfl]) ?_
        exact K48
      by_cases k52 : pv40.1 = 4
      · have h47 := f_v_tells_4 k52 h47
        refine z_callU (x := ⟨"MoreStory$Parent", "tells", "(I)I"⟩) (owner := "MoreStory$Parent") (pc := 69) (is := [11, 7]) (n := 1) (As := [.int a3]) (st := []) (st' := [.int r45]) (C2 := [wX aX (aN 200) (aK 200) (aT 200) (aR 200) (aV 6) gG gY gZ ct SX, wH aN ct SN, wH aK ct SK, wT aT (aH 200) ct ST, wH aH ct SH, wR aR ct SR, wV aV ct SV, wA gG 21 ct S_46, wA gY 5 ct SY, wA gZ 5 ct SZ, DA42, wPa gG w5 pv40, DB43, wDh ct SE]) E (c_X4_tells (l := l) (G := G) (ct := ct) (gG := gG) (aP := w5) h47) wd_47_9 wd_47_10 wd_47_21 wd_47_22 wd_8_22 wd_47_20 rfl ⟨by decide, by decide, by decide +kernel⟩ ⟨Nat.le_of_ble_eq_true rfl, Nat.le_of_ble_eq_true rfl, Nat.le_of_ble_eq_true rfl, Nat.le_of_ble_eq_true rfl⟩ rfl rfl rfl (by decide) rfl rfl (zrP3 k52 (j := 0) rfl) rfl (Nat.le_of_ble_eq_true rfl) dX11_act_69 rfl rfl ?_
        refine z_world (Cs' := [wX aX (aN 200) (aK 200) (aT 200) (aR 200) (aV 6) gG gY gZ ct SX, wH aN ct SN, wH aK ct SK, wT aT (aH 200) ct ST, wH aH ct SH, wR aR ct SR, wV aV ct SV, wA gG 21 ct S_46, wA gY 5 ct SY, wA gZ 5 ct SZ, wDp gG SD, wDh ct SE]) (by rw [eD44]; simp [zfl]) ?_
        exact K48
      by_cases k53 : pv40.1 = 5
      · have h47 := f_v_tells_5 k53 h47
        refine z_callO (x := ⟨"MoreStory$Parent", "tells", "(I)I"⟩) (owner := "MoreStory$Parent") (pc := 69) (is := [11, 7]) (n := 1) (As := [.int a3]) (st := []) (st' := [.int r45]) (C2 := [wX aX (aN 200) (aK 200) (aT 200) (aR 200) (aV 6) gG gY gZ ct SX, wH aN ct SN, wH aK ct SK, wT aT (aH 200) ct ST, wH aH ct SH, wR aR ct SR, wV aV ct SV, wA gG 21 ct S_46, wA gY 5 ct SY, wA gZ 5 ct SZ, DA42, wPa gG w5 pv40, DB43, wDh ct SE]) E (c_X0_tells (l := l) (G := G) (ct := ct) (gG := gG) (aP := w5) h47) wd_47_9 wd_47_10 wd_47_11 wd_47_12 wd_47_13 wd_8_16 wd_47_14 wd_47_20 ⟨by decide, by decide, by decide +kernel⟩ ⟨Nat.le_of_ble_eq_true rfl, Nat.le_of_ble_eq_true rfl, Nat.le_of_ble_eq_true rfl, Nat.le_of_ble_eq_true rfl⟩ rfl rfl rfl (by decide) rfl rfl (zrP0 k53 (j := 0) rfl) rfl (Nat.le_of_ble_eq_true rfl) dX11_act_69 rfl rfl ?_
        refine z_world (Cs' := [wX aX (aN 200) (aK 200) (aT 200) (aR 200) (aV 6) gG gY gZ ct SX, wH aN ct SN, wH aK ct SK, wT aT (aH 200) ct ST, wH aH ct SH, wR aR ct SR, wV aV ct SV, wA gG 21 ct S_46, wA gY 5 ct SY, wA gZ 5 ct SZ, wDp gG SD, wDh ct SE]) (by rw [eD44]; simp [zfl]) ?_
        exact K48
      by_cases k54 : pv40.1 = 6
      · have h47 := f_v_tells_6 k54 h47
        refine z_callO (x := ⟨"MoreStory$Parent", "tells", "(I)I"⟩) (owner := "MoreStory$Parent") (pc := 69) (is := [11, 7]) (n := 1) (As := [.int a3]) (st := []) (st' := [.int r45]) (C2 := [wX aX (aN 200) (aK 200) (aT 200) (aR 200) (aV 6) gG gY gZ ct SX, wH aN ct SN, wH aK ct SK, wT aT (aH 200) ct ST, wH aH ct SH, wR aR ct SR, wV aV ct SV, wA gG 21 ct S_46, wA gY 5 ct SY, wA gZ 5 ct SZ, DA42, wPa gG w5 pv40, DB43, wDh ct SE]) E (c_X8_tells (l := l) (G := G) (ct := ct) (gG := gG) (aP := w5) h47) wd_47_9 wd_47_10 wd_47_11 wd_48_18 wd_48_6 wd_8_10 wd_48_7 wd_47_20 ⟨by decide, by decide, by decide +kernel⟩ ⟨Nat.le_of_ble_eq_true rfl, Nat.le_of_ble_eq_true rfl, Nat.le_of_ble_eq_true rfl, Nat.le_of_ble_eq_true rfl⟩ rfl rfl rfl (by decide) rfl rfl (zrP9 k54 (j := 0) rfl) rfl (Nat.le_of_ble_eq_true rfl) dX11_act_69 rfl rfl ?_
        refine z_world (Cs' := [wX aX (aN 200) (aK 200) (aT 200) (aR 200) (aV 6) gG gY gZ ct SX, wH aN ct SN, wH aK ct SK, wT aT (aH 200) ct ST, wH aH ct SH, wR aR ct SR, wV aV ct SV, wA gG 21 ct S_46, wA gY 5 ct SY, wA gZ 5 ct SZ, wDp gG SD, wDh ct SE]) (by rw [eD44]; simp [zfl]) ?_
        exact K48
      have h47 := f_v_tells_e k49 k50 k51 k52 k53 k54 h47
      refine z_callV0 (pc := 69) (is := [11, 7]) (n := 1) (As := [.int a3]) (st := []) (st' := [.int r45]) (C2 := [wX aX (aN 200) (aK 200) (aT 200) (aR 200) (aV 6) gG gY gZ ct SX, wH aN ct SN, wH aK ct SK, wT aT (aH 200) ct ST, wH aH ct SH, wR aR ct SR, wV aV ct SV, wA gG 21 ct S_46, wA gY 5 ct SY, wA gZ 5 ct SZ, DA42, wPa gG w5 pv40, DB43, wDh ct SE]) E (c_X4_tells (l := l) (G := G) (ct := ct) (gG := gG) (aP := w5) h47) wv_X4_tells wd_48_1 ⟨Nat.le_of_ble_eq_true rfl, Nat.le_of_ble_eq_true rfl, Nat.le_of_ble_eq_true rfl, Nat.le_of_ble_eq_true rfl⟩ rfl rfl rfl (by decide) rfl rfl (zrP4 k49 k50 k51 k52 k53 k54 (j := 0) rfl) rfl (Nat.le_of_ble_eq_true rfl) dX11_act_69 rfl rfl ?_
      refine z_world (Cs' := [wX aX (aN 200) (aK 200) (aT 200) (aR 200) (aV 6) gG gY gZ ct SX, wH aN ct SN, wH aK ct SK, wT aT (aH 200) ct ST, wH aH ct SH, wR aR ct SR, wV aV ct SV, wA gG 21 ct S_46, wA gY 5 ct SY, wA gZ 5 ct SZ, wDp gG SD, wDh ct SE]) (by rw [eD44]; simp [zfl]) ?_
      exact K48
    have hf := kB_f hf c39
    refine z_tswOut (pc := 26) (tgt := 73) E dX11_act_26 (by have n_c7 := lv_neT c7 (a := 0) (by decide); have n_c23 := lv_neT c23 (a := 1) (by decide); have n_c39 := lv_neT c39 (a := 2) (by decide); omega) (by decide) ?_
    refine z_iconst (pc := 73) (v := 0) E dX11_act_73 (by decide) ?_
    cases hf
    exact z_iret E hr dX11_act_74
  · have hf := kN_n hf e6
    refine z_iconst (pc := 23) (v := 0) E dX11_act_23 (by decide) ?_
    cases hf
    exact z_iret E hr dX11_act_24
