noncomputable def f_X11_without_l43 (N : Nat) (SX : zRS) (SN : zHS) (SK : zHS) (SR : zRS) (SV : (Nat → Nat → Int64)) (SG : (Nat → Int32)) (SY : (Nat → Int32)) (SZ : (Nat → Int32)) (SD : (List (Nat × zPS))) : Nat → zTS → zHS → ((List ((Nat → Nat) × zQS))) → Nat → Int32 → Int32 → Int32 → Option (Int32 × zTS × zHS × ((List ((Nat → Nat) × zQS)))) := fun n => Nat.rec (motive := fun _ => zTS → zHS → ((List ((Nat → Nat) × zQS))) → Nat → Int32 → Int32 → Int32 → Option (Int32 × zTS × zHS × ((List ((Nat → Nat) × zQS))))) (fun _ _ _ _ _ _ _ => none) (fun _ ih ST SH SE x2 x3 x4 x5 => kB ((SN.1 7) ≤ x5) (some (x4, ST, SH, SE)) (kD (f_X10_start N ST SH SN SD) (fun S_14 S_15 => kC (f_X10_skip N S_14 S_15 x5) (fun S_17 => kD4 (f_X10_sleepsAt N S_17 S_15 SD SE (some x2) (some x2)) (fun r19 S_20 S_21 S_22 => kC (f_X11_earlier r19 x3) (fun r24 => kB (r24 = 0) (kL (x5 + 1) (fun v27 => ih S_20 S_21 S_22 x2 x3 x4 v27)) (kL (x5 + 1) (fun v28 => ih S_20 S_21 S_22 x2 r19 x5 v28)))))))) n
theorem f_X11_without_l43_z (N : Nat) (SX : zRS) (SN : zHS) (SK : zHS) (SR : zRS) (SV : (Nat → Nat → Int64)) (SG : (Nat → Int32)) (SY : (Nat → Int32)) (SZ : (Nat → Int32)) (SD : (List (Nat × zPS))) (ST : zTS) (SH : zHS) (SE : (List ((Nat → Nat) × zQS))) (x2 : Nat) (x3 : Int32) (x4 : Int32) (x5 : Int32) : f_X11_without_l43 N SX SN SK SR SV SG SY SZ SD 0 ST SH SE x2 x3 x4 x5 = none := rfl
theorem f_X11_without_l43_s (N : Nat) (SX : zRS) (SN : zHS) (SK : zHS) (SR : zRS) (SV : (Nat → Nat → Int64)) (SG : (Nat → Int32)) (SY : (Nat → Int32)) (SZ : (Nat → Int32)) (SD : (List (Nat × zPS))) (n : Nat) (ST : zTS) (SH : zHS) (SE : (List ((Nat → Nat) × zQS))) (x2 : Nat) (x3 : Int32) (x4 : Int32) (x5 : Int32) : f_X11_without_l43 N SX SN SK SR SV SG SY SZ SD (n + 1) ST SH SE x2 x3 x4 x5 = kB ((SN.1 7) ≤ x5) (some (x4, ST, SH, SE)) (kD (f_X10_start N ST SH SN SD) (fun S_14 S_15 => kC (f_X10_skip N S_14 S_15 x5) (fun S_17 => kD4 (f_X10_sleepsAt N S_17 S_15 SD SE (some x2) (some x2)) (fun r19 S_20 S_21 S_22 => kC (f_X11_earlier r19 x3) (fun r24 => kB (r24 = 0) (kL (x5 + 1) (fun v27 => (f_X11_without_l43 N SX SN SK SR SV SG SY SZ SD n) S_20 S_21 S_22 x2 x3 x4 v27)) (kL (x5 + 1) (fun v28 => (f_X11_without_l43 N SX SN SK SR SV SG SY SZ SD n) S_20 S_21 S_22 x2 r19 x5 v28))))))) := rfl
noncomputable def f_X11_without (N : Nat) (SX : zRS) (SN : zHS) (SK : zHS) (ST : zTS) (SH : zHS) (SR : zRS) (SV : (Nat → Nat → Int64)) (SG : (Nat → Int32)) (SY : (Nat → Int32)) (SZ : (Nat → Int32)) (SD : (List (Nat × zPS))) (SE : (List ((Nat → Nat) × zQS))) (a1 : Int32) : Option (Int32 × zTS × zHS × ((List ((Nat → Nat) × zQS)))) := kC (f_X1_person SN a1) (fun r1 => kN r1 (some ((-1), ST, SH, SE)) (fun w3 => kD (f_X10_start N ST SH SN SD) (fun S_5 S_6 => kD4 (f_X10_sleepsAt N S_5 S_6 SD SE (some w3) (some w3)) (fun r8 S_9 S_10 S_11 => f_X11_without_l43 N SX SN SK SR SV SG SY SZ SD N S_9 S_10 S_11 w3 r8 (-5) 0))))
theorem wv_X11_without : zWV RX11 yX11_without cX11_without 7 (some .int) 1 := ⟨wd_36_7, wd_36_8, wd_1_2, wd_36_9, by decide +kernel⟩
def rm_X11_without : Room := { frames := 7, cells := 0, slots := 0, locals := 193 }
set_option maxHeartbeats 4000000 in
set_option maxRecDepth 100000 in
theorem c_X11_without {l : Launch} {G : va_G} {ct : Nat → ClassId} {aX : Nat → Nat} {aN : Nat → Nat} {aK : Nat → Nat} {aT : Nat → Nat} {aH : Nat → Nat} {aR : Nat → Nat} {aV : Nat → Nat} {gG : Nat} {gY : Nat} {gZ : Nat} {N : Nat} {SX : zRS} {SN : zHS} {SK : zHS} {ST : zTS} {SH : zHS} {SR : zRS} {SV : (Nat → Nat → Int64)} {SG : (Nat → Int32)} {SY : (Nat → Int32)} {SZ : (Nat → Int32)} {SD : (List (Nat × zPS))} {SE : (List ((Nat → Nat) × zQS))} {a1 : Int32} {r0 : Int32} {OT : zTS} {OH : zHS} {OE : (List ((Nat → Nat) × zQS))} (hf : f_X11_without N SX SN SK ST SH SR SV SG SY SZ SD SE a1 = some (r0, OT, OH, OE)) : zC l yX11_without cX11_without 7 (some .int) rm_X11_without G ct [.ref (aX 200), .int a1] [wX aX (aN 200) (aK 200) (aT 200) (aR 200) (aV 6) gG gY gZ ct SX, wH aN ct SN, wH aK ct SK, wT aT (aH 200) ct ST, wH aH ct SH, wR aR ct SR, wV aV ct SV, wA gG 21 ct SG, wA gY 5 ct SY, wA gZ 5 ct SZ, wDp gG SD, wDh ct SE] [wX aX (aN 200) (aK 200) (aT 200) (aR 200) (aV 6) gG gY gZ ct SX, wH aN ct SN, wH aK ct SK, wT aT (aH 200) ct OT, wH aH ct OH, wR aR ct SR, wV aV ct SV, wA gG 21 ct SG, wA gY 5 ct SY, wA gZ 5 ct SZ, wDp gG SD, wDh ct OE] (some (.int r0)) 0 0 := by
  refine z_enter (own := RX11) (lv := [(0, .ref (aX 200)), (1, .int a1)]) (by decide) rfl (Nat.le_of_ble_eq_true rfl) rfl ?_
  intro p e s m args below meth c A E hr hnm
  have L43 : ∀ (n43 : Nat) (ST : zTS) (SH : zHS) (SE : (List ((Nat → Nat) × zQS))) (x2 : Nat) (x3 : Int32) (x4 : Int32) (x5 : Int32), f_X11_without_l43 N SX SN SK SR SV SG SY SZ SD n43 ST SH SE x2 x3 x4 x5 = some (r0, OT, OH, OE) → zJ p l e rm_X11_without s m args below meth c (zQ G ct (some (.int r0)) [wX aX (aN 200) (aK 200) (aT 200) (aR 200) (aV 6) gG gY gZ ct SX, wH aN ct SN, wH aK ct SK, wT aT (aH 200) ct OT, wH aH ct OH, wR aR ct SR, wV aV ct SV, wA gG 21 ct SG, wA gY 5 ct SY, wA gZ 5 ct SZ, wDp gG SD, wDh ct OE] A below args s 0 0) A G 7 0 0 [wX aX (aN 200) (aK 200) (aT 200) (aR 200) (aV 6) gG gY gZ ct SX, wH aN ct SN, wH aK ct SK, wT aT (aH 200) ct ST, wH aH ct SH, wR aR ct SR, wV aV ct SV, wA gG 21 ct SG, wA gY 5 ct SY, wA gZ 5 ct SZ, wDp gG SD, wDh ct SE] [(0, .ref (aX 200)), (2, .ref x2), (3, .int x3), (4, .int x4), (5, .int x5)] 43 [] := by
    intro n43
    induction n43 with
    | zero =>
      intro ST SH SE x2 x3 x4 x5 hf
      rw [f_X11_without_l43_z] at hf
      cases hf
    | succ n43 ih43 =>
      intro ST SH SE x2 x3 x4 x5 hf
      rw [f_X11_without_l43_s] at hf
      refine z_iload (pc := 43) (k0 := 4) E dX11_without_43 rfl ?_
      refine z_aload_n (pc := 45) (k0 := 0) E dX11_without_45 rfl rfl ?_
      refine gX_0 (pc := 46) (i := 0) E rfl wd_1_16 dX11_without_46 ?_
      refine gH_7 (pc := 49) (i := 1) E rfl wd_7_3 dX11_without_49 ?_
      refine z_icmp_ge (pc := 52) (tgt := 108) E dX11_without_52 (by decide) (fun c13 => ?_) (fun c13 => ?_)
      · have hf := kB_t hf c13
        refine z_iload (pc := 108) (k0 := 3) E dX11_without_108 rfl ?_
        cases hf
        exact z_iret E hr dX11_without_110
      · have hf := kB_f hf c13
        refine z_aload_n (pc := 55) (k0 := 0) E dX11_without_55 rfl rfl ?_
        refine gX_2 (pc := 56) (i := 0) E rfl wd_1_21 dX11_without_56 ?_
        refine z_aload_n (pc := 59) (k0 := 0) E dX11_without_59 rfl rfl ?_
        refine gX_0 (pc := 60) (i := 0) E rfl wd_1_16 dX11_without_60 ?_
        obtain ⟨S_14, S_15, h16, hf⟩ := kD_e hf
        refine z_callV0 (pc := 63) (is := [3, 4, 1, 10]) (n := 1) (As := [.ref (aN 200)]) (st := []) (st' := []) (C2 := [wX aX (aN 200) (aK 200) (aT 200) (aR 200) (aV 6) gG gY gZ ct SX, wH aN ct SN, wH aK ct SK, wT aT (aH 200) ct S_14, wH aH ct S_15, wR aR ct SR, wV aV ct SV, wA gG 21 ct SG, wA gY 5 ct SY, wA gZ 5 ct SZ, wDp gG SD, wDh ct SE]) E (c_X10_start (l := l) (G := G) (ct := ct) (aT := aT) (aH := aH) (aK := aN) (gG := gG) h16) wv_X10_start wd_32_12 ⟨Nat.le_of_ble_eq_true rfl, Nat.le_of_ble_eq_true rfl, Nat.le_of_ble_eq_true rfl, Nat.le_of_ble_eq_true rfl⟩ rfl rfl rfl (by decide) rfl rfl (zrT (j := 0) rfl) rfl (Nat.le_of_ble_eq_true rfl) dX11_without_63 rfl rfl ?_
        refine z_aload_n (pc := 66) (k0 := 0) E dX11_without_66 rfl rfl ?_
        refine gX_2 (pc := 67) (i := 0) E rfl wd_1_21 dX11_without_67 ?_
        refine z_iload (pc := 70) (k0 := 4) E dX11_without_70 rfl ?_
        obtain ⟨S_17, h18, hf⟩ := kC_e hf
        refine z_callV0 (pc := 72) (is := [3, 4]) (n := 1) (As := [.int x5]) (st := []) (st' := []) (C2 := [wX aX (aN 200) (aK 200) (aT 200) (aR 200) (aV 6) gG gY gZ ct SX, wH aN ct SN, wH aK ct SK, wT aT (aH 200) ct S_17, wH aH ct S_15, wR aR ct SR, wV aV ct SV, wA gG 21 ct SG, wA gY 5 ct SY, wA gZ 5 ct SZ, wDp gG SD, wDh ct SE]) E (c_X10_skip (l := l) (G := G) (ct := ct) (aT := aT) (aH := aH) h18) wv_X10_skip wd_36_10 ⟨Nat.le_of_ble_eq_true rfl, Nat.le_of_ble_eq_true rfl, Nat.le_of_ble_eq_true rfl, Nat.le_of_ble_eq_true rfl⟩ rfl rfl rfl (by decide) rfl rfl (zrT (j := 0) rfl) rfl (Nat.le_of_ble_eq_true rfl) dX11_without_72 rfl rfl ?_
        refine z_aload_n (pc := 75) (k0 := 0) E dX11_without_75 rfl rfl ?_
        refine gX_2 (pc := 76) (i := 0) E rfl wd_1_21 dX11_without_76 ?_
        refine z_aload_n (pc := 79) (k0 := 1) E dX11_without_79 rfl rfl ?_
        refine z_aload_n (pc := 80) (k0 := 1) E dX11_without_80 rfl rfl ?_
        obtain ⟨r19, S_20, S_21, S_22, h23, hf⟩ := kD4_e hf
        refine z_callV0 (pc := 81) (is := [3, 4, 10, 11]) (n := 2) (As := [.ref x2, .ref x2]) (st := []) (st' := [.int r19]) (C2 := [wX aX (aN 200) (aK 200) (aT 200) (aR 200) (aV 6) gG gY gZ ct SX, wH aN ct SN, wH aK ct SK, wT aT (aH 200) ct S_20, wH aH ct S_21, wR aR ct SR, wV aV ct SV, wA gG 21 ct SG, wA gY 5 ct SY, wA gZ 5 ct SZ, wDp gG SD, wDh ct S_22]) E (c_X10_sleepsAt (l := l) (G := G) (ct := ct) (aT := aT) (aH := aH) (gG := gG) h23) wv_X10_sleepsAt wd_34_21 ⟨Nat.le_of_ble_eq_true rfl, Nat.le_of_ble_eq_true rfl, Nat.le_of_ble_eq_true rfl, Nat.le_of_ble_eq_true rfl⟩ rfl rfl rfl (by decide) rfl rfl (zrT (j := 0) rfl) rfl (Nat.le_of_ble_eq_true rfl) dX11_without_81 rfl rfl ?_
        refine z_istore (pc := 84) (lv' := [(6, .int r19), (0, .ref (aX 200)), (2, .ref x2), (3, .int x3), (4, .int x4), (5, .int x5)]) E dX11_without_84 (by decide) rfl ?_
        refine z_iload (pc := 86) (k0 := 0) E dX11_without_86 rfl ?_
        refine z_iload_n (pc := 88) (k0 := 3) E dX11_without_88 rfl rfl ?_
        obtain ⟨r24, h25, hf⟩ := kC_e hf
        refine z_callS0 (pc := 89) (is := []) (n := 2) (As := [.int r19, .int x3]) (st := []) (st' := [.int r24]) (C2 := [wX aX (aN 200) (aK 200) (aT 200) (aR 200) (aV 6) gG gY gZ ct SX, wH aN ct SN, wH aK ct SK, wT aT (aH 200) ct S_20, wH aH ct S_21, wR aR ct SR, wV aV ct SV, wA gG 21 ct SG, wA gY 5 ct SY, wA gZ 5 ct SZ, wDp gG SD, wDh ct S_22]) E (c_X11_earlier (l := l) (G := G) (ct := ct)  h25) wv_X11_earlier wd_35_3 ⟨Nat.le_of_ble_eq_true rfl, Nat.le_of_ble_eq_true rfl, Nat.le_of_ble_eq_true rfl, Nat.le_of_ble_eq_true rfl⟩ rfl rfl rfl (by decide) rfl rfl rfl (Nat.le_of_ble_eq_true rfl) dX11_without_89 rfl rfl ?_
        refine z_if_eq (pc := 92) (tgt := 102) E dX11_without_92 (by decide) (fun c26 => ?_) (fun c26 => ?_)
        · have hf := kB_t hf c26
          obtain ⟨v27, e_v27, hf⟩ := kL_e hf
          refine z_iinc (pc := 102) (k0 := 5) (v := v27) (lv' := [(5, .int v27), (6, .int r19), (0, .ref (aX 200)), (2, .ref x2), (3, .int x3), (4, .int x4)]) E dX11_without_102 rfl e_v27 (by decide) rfl ?_
          refine z_goto (pc := 105) (tgt := 43) E dX11_without_105 (by decide) ?_
          refine z_sub [2, 3, 4, 5, 0] (lv' := [(0, .ref (aX 200)), (2, .ref x2), (3, .int x3), (4, .int x4), (5, .int v27)]) rfl ?_
          exact ih43 S_20 S_21 S_22 x2 x3 x4 v27 hf
        · have hf := kB_f hf c26
          refine z_iload (pc := 95) (k0 := 5) E dX11_without_95 rfl ?_
          refine z_istore (pc := 97) (lv' := [(4, .int x5), (6, .int r19), (0, .ref (aX 200)), (2, .ref x2), (3, .int x3), (5, .int x5)]) E dX11_without_97 (by decide) rfl ?_
          refine z_iload (pc := 99) (k0 := 1) E dX11_without_99 rfl ?_
          refine z_istore_n (pc := 101) (lv' := [(3, .int r19), (4, .int x5), (6, .int r19), (0, .ref (aX 200)), (2, .ref x2), (5, .int x5)]) E dX11_without_101 rfl (by decide) rfl ?_
          obtain ⟨v28, e_v28, hf⟩ := kL_e hf
          refine z_iinc (pc := 102) (k0 := 5) (v := v28) (lv' := [(5, .int v28), (3, .int r19), (4, .int x5), (6, .int r19), (0, .ref (aX 200)), (2, .ref x2)]) E dX11_without_102 rfl e_v28 (by decide) rfl ?_
          refine z_goto (pc := 105) (tgt := 43) E dX11_without_105 (by decide) ?_
          refine z_sub [4, 5, 1, 2, 0] (lv' := [(0, .ref (aX 200)), (2, .ref x2), (3, .int r19), (4, .int x5), (5, .int v28)]) rfl ?_
          exact ih43 S_20 S_21 S_22 x2 r19 x5 v28 hf
  unfold f_X11_without at hf
  refine z_aload_n (pc := 0) (k0 := 0) E dX11_without_0 rfl rfl ?_
  refine gX_0 (pc := 1) (i := 0) E rfl wd_1_16 dX11_without_1 ?_
  refine z_iload_n (pc := 4) (k0 := 1) E dX11_without_4 rfl rfl ?_
  obtain ⟨r1, h2, hf⟩ := kC_e hf
  refine z_callV0 (pc := 5) (is := [1]) (n := 1) (As := [.int a1]) (st := []) (st' := [va_rf r1]) (C2 := [wX aX (aN 200) (aK 200) (aT 200) (aR 200) (aV 6) gG gY gZ ct SX, wH aN ct SN, wH aK ct SK, wT aT (aH 200) ct ST, wH aH ct SH, wR aR ct SR, wV aV ct SV, wA gG 21 ct SG, wA gY 5 ct SY, wA gZ 5 ct SZ, wDp gG SD, wDh ct SE]) E (c_X1_person (l := l) (G := G) (ct := ct) (aH := aN) h2) wv_X1_person wd_11_10 ⟨Nat.le_of_ble_eq_true rfl, Nat.le_of_ble_eq_true rfl, Nat.le_of_ble_eq_true rfl, Nat.le_of_ble_eq_true rfl⟩ rfl rfl rfl (by decide) rfl rfl (zrH (j := 0) rfl) rfl (Nat.le_of_ble_eq_true rfl) dX11_without_5 rfl rfl ?_
  refine z_qstore_n (pc := 8) (lv' := [(2, va_rf r1), (0, .ref (aX 200)), (1, .int a1)]) E dX11_without_8 rfl (by decide) rfl ?_
  refine z_qload_n (pc := 9) (k0 := 0) E dX11_without_9 rfl rfl ?_
  refine z_ifnonnull (pc := 10) (tgt := 15) E dX11_without_10 (by decide) (fun w3 e4 => ?_) (fun e4 => ?_)
  · have hf := kN_s hf e4
    have hf_e4 := hf
    subst e4
    have hf := hf_e4
    refine z_aload_n (pc := 15) (k0 := 1) E dX11_without_15 rfl rfl ?_
    refine gX_2 (pc := 16) (i := 0) E rfl wd_1_21 dX11_without_16 ?_
    refine z_aload_n (pc := 19) (k0 := 1) E dX11_without_19 rfl rfl ?_
    refine gX_0 (pc := 20) (i := 0) E rfl wd_1_16 dX11_without_20 ?_
    obtain ⟨S_5, S_6, h7, hf⟩ := kD_e hf
    refine z_callV0 (pc := 23) (is := [3, 4, 1, 10]) (n := 1) (As := [.ref (aN 200)]) (st := []) (st' := []) (C2 := [wX aX (aN 200) (aK 200) (aT 200) (aR 200) (aV 6) gG gY gZ ct SX, wH aN ct SN, wH aK ct SK, wT aT (aH 200) ct S_5, wH aH ct S_6, wR aR ct SR, wV aV ct SV, wA gG 21 ct SG, wA gY 5 ct SY, wA gZ 5 ct SZ, wDp gG SD, wDh ct SE]) E (c_X10_start (l := l) (G := G) (ct := ct) (aT := aT) (aH := aH) (aK := aN) (gG := gG) h7) wv_X10_start wd_32_12 ⟨Nat.le_of_ble_eq_true rfl, Nat.le_of_ble_eq_true rfl, Nat.le_of_ble_eq_true rfl, Nat.le_of_ble_eq_true rfl⟩ rfl rfl rfl (by decide) rfl rfl (zrT (j := 0) rfl) rfl (Nat.le_of_ble_eq_true rfl) dX11_without_23 rfl rfl ?_
    refine z_aload_n (pc := 26) (k0 := 1) E dX11_without_26 rfl rfl ?_
    refine gX_2 (pc := 27) (i := 0) E rfl wd_1_21 dX11_without_27 ?_
    refine z_aload_n (pc := 30) (k0 := 0) E dX11_without_30 rfl rfl ?_
    refine z_aload_n (pc := 31) (k0 := 0) E dX11_without_31 rfl rfl ?_
    obtain ⟨r8, S_9, S_10, S_11, h12, hf⟩ := kD4_e hf
    refine z_callV0 (pc := 32) (is := [3, 4, 10, 11]) (n := 2) (As := [.ref w3, .ref w3]) (st := []) (st' := [.int r8]) (C2 := [wX aX (aN 200) (aK 200) (aT 200) (aR 200) (aV 6) gG gY gZ ct SX, wH aN ct SN, wH aK ct SK, wT aT (aH 200) ct S_9, wH aH ct S_10, wR aR ct SR, wV aV ct SV, wA gG 21 ct SG, wA gY 5 ct SY, wA gZ 5 ct SZ, wDp gG SD, wDh ct S_11]) E (c_X10_sleepsAt (l := l) (G := G) (ct := ct) (aT := aT) (aH := aH) (gG := gG) h12) wv_X10_sleepsAt wd_34_21 ⟨Nat.le_of_ble_eq_true rfl, Nat.le_of_ble_eq_true rfl, Nat.le_of_ble_eq_true rfl, Nat.le_of_ble_eq_true rfl⟩ rfl rfl rfl (by decide) rfl rfl (zrT (j := 0) rfl) rfl (Nat.le_of_ble_eq_true rfl) dX11_without_32 rfl rfl ?_
    refine z_istore_n (pc := 35) (lv' := [(3, .int r8), (2, .ref w3), (0, .ref (aX 200)), (1, .int a1)]) E dX11_without_35 rfl (by decide) rfl ?_
    refine z_bipush (pc := 36) (v := (-5)) E dX11_without_36 (by decide) ?_
    refine z_istore (pc := 38) (lv' := [(4, .int (-5)), (3, .int r8), (2, .ref w3), (0, .ref (aX 200)), (1, .int a1)]) E dX11_without_38 (by decide) rfl ?_
    refine z_iconst (pc := 40) (v := 0) E dX11_without_40 (by decide) ?_
    refine z_istore (pc := 41) (lv' := [(5, .int 0), (4, .int (-5)), (3, .int r8), (2, .ref w3), (0, .ref (aX 200)), (1, .int a1)]) E dX11_without_41 (by decide) rfl ?_
    refine z_sub [4, 3, 2, 1, 0] (lv' := [(0, .ref (aX 200)), (2, .ref w3), (3, .int r8), (4, .int (-5)), (5, .int 0)]) rfl ?_
    exact L43 N S_9 S_10 S_11 w3 r8 (-5) 0 hf
  · have hf := kN_n hf e4
    refine z_iconst (pc := 13) (v := (-1)) E dX11_without_13 (by decide) ?_
    cases hf
    exact z_iret E hr dX11_without_14
noncomputable def f_X11_swap (SA : (Nat → Int32)) (a2 : Int32) (a3 : Int32) : Option (((Nat → Int32))) := kB (a2 < 0) (some (SA)) (kB (a3 < 0) (some (SA)) (kB ((Int32.ofNat 5) ≤ a2) (some (SA)) (kB (a3 < (Int32.ofNat 5)) (kO (¬ (a2 < 0 ∨ 5 ≤ Int32.toNatClampNeg a2)) (kO (¬ (a3 < 0 ∨ 5 ≤ Int32.toNatClampNeg a3)) (kO (¬ (a2 < 0 ∨ 5 ≤ Int32.toNatClampNeg a2)) (kL (upd SA (Int32.toNatClampNeg a2) (SA (Int32.toNatClampNeg a3))) (fun SA_8 => kO (¬ (a3 < 0 ∨ 5 ≤ Int32.toNatClampNeg a3)) (kL (upd SA_8 (Int32.toNatClampNeg a3) (SA (Int32.toNatClampNeg a2))) (fun SA_10 => some (SA_10)))))))) (some (SA)))))
theorem wv_X11_swap : zWS RX11 yX11_swap cX11_swap 4 none 3 := ⟨wd_37_15, wd_1_2, wd_37_16, by decide +kernel⟩
def rm_X11_swap : Room := { frames := 0, cells := 0, slots := 0, locals := 0 }
set_option maxHeartbeats 4000000 in
set_option maxRecDepth 100000 in
theorem c_X11_swap {l : Launch} {G : va_G} {ct : Nat → ClassId} {gA : Nat} {SA : (Nat → Int32)} {a2 : Int32} {a3 : Int32} {OA : (Nat → Int32)} (hf : f_X11_swap SA a2 a3 = some OA) : zC l yX11_swap cX11_swap 4 none rm_X11_swap G ct [.ref gA, .int a2, .int a3] [wA gA 5 ct SA] [wA gA 5 ct OA] none 0 0 := by
  refine z_enter (own := RX11) (lv := [(0, .ref gA), (1, .int a2), (2, .int a3)]) (by decide) rfl (Nat.le_of_ble_eq_true rfl) rfl ?_
  intro p e s m args below meth c A E hr hnm
  unfold f_X11_swap at hf
  refine z_iload_n (pc := 0) (k0 := 1) E dX11_swap_0 rfl rfl ?_
  refine z_if_lt (pc := 1) (tgt := 20) E dX11_swap_1 (by decide) (fun c1 => ?_) (fun c1 => ?_)
  · have hf := kB_t hf c1
    cases hf
    exact z_vret E hr dX11_swap_20
  · have hf := kB_f hf c1
    refine z_iload_n (pc := 4) (k0 := 2) E dX11_swap_4 rfl rfl ?_
    refine z_if_lt (pc := 5) (tgt := 20) E dX11_swap_5 (by decide) (fun c2 => ?_) (fun c2 => ?_)
    · have hf := kB_t hf c2
      cases hf
      exact z_vret E hr dX11_swap_20
    · have hf := kB_f hf c2
      refine z_iload_n (pc := 8) (k0 := 1) E dX11_swap_8 rfl rfl ?_
      refine z_aload_n (pc := 9) (k0 := 0) E dX11_swap_9 rfl rfl ?_
      refine nA_0 (pc := 10) (i := 0) E rfl dX11_swap_10 ?_
      refine z_icmp_ge (pc := 11) (tgt := 20) E dX11_swap_11 (by decide) (fun c3 => ?_) (fun c3 => ?_)
      · have hf := kB_t hf c3
        cases hf
        exact z_vret E hr dX11_swap_20
      · have hf := kB_f hf c3
        refine z_iload_n (pc := 14) (k0 := 2) E dX11_swap_14 rfl rfl ?_
        refine z_aload_n (pc := 15) (k0 := 0) E dX11_swap_15 rfl rfl ?_
        refine nA_0 (pc := 16) (i := 0) E rfl dX11_swap_16 ?_
        refine z_icmp_lt (pc := 17) (tgt := 21) E dX11_swap_17 (by decide) (fun c4 => ?_) (fun c4 => ?_)
        · have hf := kB_t hf c4
          refine z_aload_n (pc := 21) (k0 := 0) E dX11_swap_21 rfl rfl ?_
          refine z_iload_n (pc := 22) (k0 := 1) E dX11_swap_22 rfl rfl ?_
          obtain ⟨c5, hf⟩ := kO_e hf
          refine lA_0 (pc := 23) (i := 0) E rfl c5 dX11_swap_23 ?_
          refine z_istore_n (pc := 24) (lv' := [(3, .int (SA (Int32.toNatClampNeg a2))), (0, .ref gA), (1, .int a2), (2, .int a3)]) E dX11_swap_24 rfl (by decide) rfl ?_
          refine z_aload_n (pc := 25) (k0 := 1) E dX11_swap_25 rfl rfl ?_
          refine z_iload_n (pc := 26) (k0 := 2) E dX11_swap_26 rfl rfl ?_
          refine z_aload_n (pc := 27) (k0 := 1) E dX11_swap_27 rfl rfl ?_
          refine z_iload_n (pc := 28) (k0 := 3) E dX11_swap_28 rfl rfl ?_
          obtain ⟨c6, hf⟩ := kO_e hf
          refine lA_0 (pc := 29) (i := 0) E rfl c6 dX11_swap_29 ?_
          obtain ⟨c7, hf⟩ := kO_e hf
          obtain ⟨SA_8, e_SA_8, hf⟩ := kL_e hf
          refine sA_0 (pc := 30) (i := 0) (S1 := SA_8) E rfl c7 e_SA_8 dX11_swap_30 ?_
          show zJ p l e rm_X11_swap s m args below meth c (zQ G ct none [wA gA 5 ct OA] A below args s 0 0) A G 4 0 0 [wA gA 5 ct SA_8] [(3, .int (SA (Int32.toNatClampNeg a2))), (0, .ref gA), (1, .int a2), (2, .int a3)] 31 []
          refine z_aload_n (pc := 31) (k0 := 1) E dX11_swap_31 rfl rfl ?_
          refine z_iload_n (pc := 32) (k0 := 3) E dX11_swap_32 rfl rfl ?_
          refine z_iload_n (pc := 33) (k0 := 0) E dX11_swap_33 rfl rfl ?_
          obtain ⟨c9, hf⟩ := kO_e hf
          obtain ⟨SA_10, e_SA_10, hf⟩ := kL_e hf
          refine sA_0 (pc := 34) (i := 0) (S1 := SA_10) E rfl c9 e_SA_10 dX11_swap_34 ?_
          show zJ p l e rm_X11_swap s m args below meth c (zQ G ct none [wA gA 5 ct OA] A below args s 0 0) A G 4 0 0 [wA gA 5 ct SA_10] [(3, .int (SA (Int32.toNatClampNeg a2))), (0, .ref gA), (1, .int a2), (2, .int a3)] 35 []
          cases hf
          exact z_vret E hr dX11_swap_35
        · have hf := kB_f hf c4
          cases hf
          exact z_vret E hr dX11_swap_20
noncomputable def f_X11_nextOrder_l79 (N : Nat) : Nat → ((Nat → Int32)) → Int32 → Int32 → Option (Int32 × ((Nat → Int32))) := fun n => Nat.rec (motive := fun _ => ((Nat → Int32)) → Int32 → Int32 → Option (Int32 × ((Nat → Int32)))) (fun _ _ _ => none) (fun _ ih SA x4 x5 => kB (x5 ≤ x4) (some (1, SA)) (kC (f_X11_swap SA x4 x5) (fun S_21 => kL (x4 + 1) (fun v23 => kL (x5 + (-1)) (fun v24 => ih S_21 v23 v24))))) n
theorem f_X11_nextOrder_l79_z (N : Nat) (SA : (Nat → Int32)) (x4 : Int32) (x5 : Int32) : f_X11_nextOrder_l79 N 0 SA x4 x5 = none := rfl
theorem f_X11_nextOrder_l79_s (N : Nat) (n : Nat) (SA : (Nat → Int32)) (x4 : Int32) (x5 : Int32) : f_X11_nextOrder_l79 N (n + 1) SA x4 x5 = kB (x5 ≤ x4) (some (1, SA)) (kC (f_X11_swap SA x4 x5) (fun S_21 => kL (x4 + 1) (fun v23 => kL (x5 + (-1)) (fun v24 => (f_X11_nextOrder_l79 N n) S_21 v23 v24)))) := rfl
noncomputable def f_X11_nextOrder_b63 (N : Nat) (SA : (Nat → Int32)) (x1 : Int32) (x2 : Int32) (x3 : Int32) : Option (Int32 × ((Nat → Int32))) := kC (f_X11_swap SA x2 x3) (fun S_16 => kL (x2 + 1) (fun v18 => kL (x1 - 1) (fun v19 => f_X11_nextOrder_l79 N N S_16 v18 v19)))
noncomputable def f_X11_nextOrder_l43 (N : Nat) : Nat → ((Nat → Int32)) → Int32 → Int32 → Int32 → Option (Int32 × ((Nat → Int32))) := fun n => Nat.rec (motive := fun _ => ((Nat → Int32)) → Int32 → Int32 → Int32 → Option (Int32 × ((Nat → Int32)))) (fun _ _ _ _ => none) (fun _ ih SA x1 x2 x3 => kB (x3 ≤ x2) (f_X11_nextOrder_b63 N SA x1 x2 x3) (kO (¬ (x3 < 0 ∨ 5 ≤ Int32.toNatClampNeg x3)) (kO (¬ (x2 < 0 ∨ 5 ≤ Int32.toNatClampNeg x2)) (kB ((SA (Int32.toNatClampNeg x2)) ≤ (SA (Int32.toNatClampNeg x3))) (f_X11_nextOrder_b63 N SA x1 x2 x3) (kL (x3 + (-1)) (fun v15 => ih SA x1 x2 v15)))))) n
theorem f_X11_nextOrder_l43_z (N : Nat) (SA : (Nat → Int32)) (x1 : Int32) (x2 : Int32) (x3 : Int32) : f_X11_nextOrder_l43 N 0 SA x1 x2 x3 = none := rfl
theorem f_X11_nextOrder_l43_s (N : Nat) (n : Nat) (SA : (Nat → Int32)) (x1 : Int32) (x2 : Int32) (x3 : Int32) : f_X11_nextOrder_l43 N (n + 1) SA x1 x2 x3 = kB (x3 ≤ x2) (f_X11_nextOrder_b63 N SA x1 x2 x3) (kO (¬ (x3 < 0 ∨ 5 ≤ Int32.toNatClampNeg x3)) (kO (¬ (x2 < 0 ∨ 5 ≤ Int32.toNatClampNeg x2)) (kB ((SA (Int32.toNatClampNeg x2)) ≤ (SA (Int32.toNatClampNeg x3))) (f_X11_nextOrder_b63 N SA x1 x2 x3) (kL (x3 + (-1)) (fun v15 => (f_X11_nextOrder_l43 N n) SA x1 x2 v15))))) := rfl
noncomputable def f_X11_nextOrder_b33 (N : Nat) (SA : (Nat → Int32)) (x1 : Int32) (x2 : Int32) : Option (Int32 × ((Nat → Int32))) := kB (0 ≤ x2) (kL (x1 - 1) (fun v10 => f_X11_nextOrder_l43 N N SA x1 x2 v10)) (some (0, SA))
noncomputable def f_X11_nextOrder_l12 (N : Nat) : Nat → ((Nat → Int32)) → Int32 → Int32 → Option (Int32 × ((Nat → Int32))) := fun n => Nat.rec (motive := fun _ => ((Nat → Int32)) → Int32 → Int32 → Option (Int32 × ((Nat → Int32)))) (fun _ _ _ => none) (fun _ ih SA x1 x2 => kB (x2 < 0) (f_X11_nextOrder_b33 N SA x1 x2) (kO (¬ (x2 < 0 ∨ 5 ≤ Int32.toNatClampNeg x2)) (kL (x2 + 1) (fun v5 => kO (¬ (v5 < 0 ∨ 5 ≤ Int32.toNatClampNeg v5)) (kB ((SA (Int32.toNatClampNeg x2)) ≤ (SA (Int32.toNatClampNeg v5))) (f_X11_nextOrder_b33 N SA x1 x2) (kL (x2 + (-1)) (fun v8 => ih SA x1 v8))))))) n
theorem f_X11_nextOrder_l12_z (N : Nat) (SA : (Nat → Int32)) (x1 : Int32) (x2 : Int32) : f_X11_nextOrder_l12 N 0 SA x1 x2 = none := rfl
theorem f_X11_nextOrder_l12_s (N : Nat) (n : Nat) (SA : (Nat → Int32)) (x1 : Int32) (x2 : Int32) : f_X11_nextOrder_l12 N (n + 1) SA x1 x2 = kB (x2 < 0) (f_X11_nextOrder_b33 N SA x1 x2) (kO (¬ (x2 < 0 ∨ 5 ≤ Int32.toNatClampNeg x2)) (kL (x2 + 1) (fun v5 => kO (¬ (v5 < 0 ∨ 5 ≤ Int32.toNatClampNeg v5)) (kB ((SA (Int32.toNatClampNeg x2)) ≤ (SA (Int32.toNatClampNeg v5))) (f_X11_nextOrder_b33 N SA x1 x2) (kL (x2 + (-1)) (fun v8 => (f_X11_nextOrder_l12 N n) SA x1 v8)))))) := rfl
noncomputable def f_X11_nextOrder (N : Nat) (SA : (Nat → Int32)) (a2 : Int32) : Option (Int32 × ((Nat → Int32))) := kB (a2 ≤ (Int32.ofNat 5)) (kL (a2 - 2) (fun v2 => f_X11_nextOrder_l12 N N SA a2 v2)) (some (0, SA))
theorem wv_X11_nextOrder : zWS RX11 yX11_nextOrder cX11_nextOrder 6 (some .boolean) 2 := ⟨wd_37_12, wd_1_2, wd_37_13, by decide +kernel⟩
def rm_X11_nextOrder : Room := { frames := 1, cells := 0, slots := 0, locals := 23 }
set_option maxHeartbeats 4000000 in
set_option maxRecDepth 100000 in
theorem c_X11_nextOrder {l : Launch} {G : va_G} {ct : Nat → ClassId} {gA : Nat} {N : Nat} {SA : (Nat → Int32)} {a2 : Int32} {r0 : Int32} {OA : (Nat → Int32)} (hf : f_X11_nextOrder N SA a2 = some (r0, OA)) : zC l yX11_nextOrder cX11_nextOrder 6 (some .boolean) rm_X11_nextOrder G ct [.ref gA, .int a2] [wA gA 5 ct SA] [wA gA 5 ct OA] (some (.int r0)) 0 0 := by
  refine z_enter (own := RX11) (lv := [(0, .ref gA), (1, .int a2)]) (by decide) rfl (Nat.le_of_ble_eq_true rfl) rfl ?_
  intro p e s m args below meth c A E hr hnm
  have L79 : ∀ (n79 : Nat) (SA : (Nat → Int32)) (x4 : Int32) (x5 : Int32), f_X11_nextOrder_l79 N n79 SA x4 x5 = some (r0, OA) → zJ p l e rm_X11_nextOrder s m args below meth c (zQ G ct (some (.int r0)) [wA gA 5 ct OA] A below args s 0 0) A G 6 0 0 [wA gA 5 ct SA] [(0, .ref gA), (4, .int x4), (5, .int x5)] 79 [] := by
    intro n79
    induction n79 with
    | zero =>
      intro SA x4 x5 hf
      rw [f_X11_nextOrder_l79_z] at hf
      cases hf
    | succ n79 ih79 =>
      intro SA x4 x5 hf
      rw [f_X11_nextOrder_l79_s] at hf
      refine z_iload (pc := 79) (k0 := 1) E dX11_nextOrder_79 rfl ?_
      refine z_iload (pc := 81) (k0 := 2) E dX11_nextOrder_81 rfl ?_
      refine z_icmp_ge (pc := 83) (tgt := 103) E dX11_nextOrder_83 (by decide) (fun c20 => ?_) (fun c20 => ?_)
      · have hf := kB_t hf c20
        refine z_iconst (pc := 103) (v := 1) E dX11_nextOrder_103 (by decide) ?_
        cases hf
        exact z_zret E hr (by decide) dX11_nextOrder_104
      · have hf := kB_f hf c20
        refine z_aload_n (pc := 86) (k0 := 0) E dX11_nextOrder_86 rfl rfl ?_
        refine z_iload (pc := 87) (k0 := 1) E dX11_nextOrder_87 rfl ?_
        refine z_iload (pc := 89) (k0 := 2) E dX11_nextOrder_89 rfl ?_
        obtain ⟨S_21, h22, hf⟩ := kC_e hf
        refine z_callS0 (pc := 91) (is := [0]) (n := 3) (As := [.ref gA, .int x4, .int x5]) (st := []) (st' := []) (C2 := [wA gA 5 ct S_21]) E (c_X11_swap (l := l) (G := G) (ct := ct) (gA := gA) h22) wv_X11_swap wd_37_14 ⟨Nat.le_of_ble_eq_true rfl, Nat.le_of_ble_eq_true rfl, Nat.le_of_ble_eq_true rfl, Nat.le_of_ble_eq_true rfl⟩ rfl rfl rfl (by decide) rfl rfl rfl (Nat.le_of_ble_eq_true rfl) dX11_nextOrder_91 rfl rfl ?_
        obtain ⟨v23, e_v23, hf⟩ := kL_e hf
        refine z_iinc (pc := 94) (k0 := 1) (v := v23) (lv' := [(4, .int v23), (0, .ref gA), (5, .int x5)]) E dX11_nextOrder_94 rfl e_v23 (by decide) rfl ?_
        obtain ⟨v24, e_v24, hf⟩ := kL_e hf
        refine z_iinc (pc := 97) (k0 := 2) (v := v24) (lv' := [(5, .int v24), (4, .int v23), (0, .ref gA)]) E dX11_nextOrder_97 rfl e_v24 (by decide) rfl ?_
        refine z_goto (pc := 100) (tgt := 79) E dX11_nextOrder_100 (by decide) ?_
        refine z_sub [2, 1, 0] (lv' := [(0, .ref gA), (4, .int v23), (5, .int v24)]) rfl ?_
        exact ih79 S_21 v23 v24 hf
  have B63 : ∀ (SA : (Nat → Int32)) (x1 : Int32) (x2 : Int32) (x3 : Int32), f_X11_nextOrder_b63 N SA x1 x2 x3 = some (r0, OA) → zJ p l e rm_X11_nextOrder s m args below meth c (zQ G ct (some (.int r0)) [wA gA 5 ct OA] A below args s 0 0) A G 6 0 0 [wA gA 5 ct SA] [(0, .ref gA), (1, .int x1), (2, .int x2), (3, .int x3)] 63 [] := by
    intro SA x1 x2 x3 hf
    unfold f_X11_nextOrder_b63 at hf
    refine z_aload_n (pc := 63) (k0 := 0) E dX11_nextOrder_63 rfl rfl ?_
    refine z_iload_n (pc := 64) (k0 := 2) E dX11_nextOrder_64 rfl rfl ?_
    refine z_iload_n (pc := 65) (k0 := 3) E dX11_nextOrder_65 rfl rfl ?_
    obtain ⟨S_16, h17, hf⟩ := kC_e hf
    refine z_callS0 (pc := 66) (is := [0]) (n := 3) (As := [.ref gA, .int x2, .int x3]) (st := []) (st' := []) (C2 := [wA gA 5 ct S_16]) E (c_X11_swap (l := l) (G := G) (ct := ct) (gA := gA) h17) wv_X11_swap wd_37_14 ⟨Nat.le_of_ble_eq_true rfl, Nat.le_of_ble_eq_true rfl, Nat.le_of_ble_eq_true rfl, Nat.le_of_ble_eq_true rfl⟩ rfl rfl rfl (by decide) rfl rfl rfl (Nat.le_of_ble_eq_true rfl) dX11_nextOrder_66 rfl rfl ?_
    refine z_iload_n (pc := 69) (k0 := 2) E dX11_nextOrder_69 rfl rfl ?_
    refine z_iconst (pc := 70) (v := 1) E dX11_nextOrder_70 (by decide) ?_
    obtain ⟨v18, e_v18, hf⟩ := kL_e hf
    refine z_iadd (pc := 71) (v := v18) E dX11_nextOrder_71 e_v18 ?_
    refine z_istore (pc := 72) (lv' := [(4, .int v18), (0, .ref gA), (1, .int x1), (2, .int x2), (3, .int x3)]) E dX11_nextOrder_72 (by decide) rfl ?_
    refine z_iload_n (pc := 74) (k0 := 2) E dX11_nextOrder_74 rfl rfl ?_
    refine z_iconst (pc := 75) (v := 1) E dX11_nextOrder_75 (by decide) ?_
    obtain ⟨v19, e_v19, hf⟩ := kL_e hf
    refine z_isub (pc := 76) (v := v19) E dX11_nextOrder_76 e_v19 ?_
    refine z_istore (pc := 77) (lv' := [(5, .int v19), (4, .int v18), (0, .ref gA), (1, .int x1), (2, .int x2), (3, .int x3)]) E dX11_nextOrder_77 (by decide) rfl ?_
    refine z_sub [2, 1, 0] (lv' := [(0, .ref gA), (4, .int v18), (5, .int v19)]) rfl ?_
    exact L79 N S_16 v18 v19 hf
  have L43 : ∀ (n43 : Nat) (SA : (Nat → Int32)) (x1 : Int32) (x2 : Int32) (x3 : Int32), f_X11_nextOrder_l43 N n43 SA x1 x2 x3 = some (r0, OA) → zJ p l e rm_X11_nextOrder s m args below meth c (zQ G ct (some (.int r0)) [wA gA 5 ct OA] A below args s 0 0) A G 6 0 0 [wA gA 5 ct SA] [(0, .ref gA), (1, .int x1), (2, .int x2), (3, .int x3)] 43 [] := by
    intro n43
    induction n43 with
    | zero =>
      intro SA x1 x2 x3 hf
      rw [f_X11_nextOrder_l43_z] at hf
      cases hf
    | succ n43 ih43 =>
      intro SA x1 x2 x3 hf
      rw [f_X11_nextOrder_l43_s] at hf
      refine z_iload_n (pc := 43) (k0 := 3) E dX11_nextOrder_43 rfl rfl ?_
      refine z_iload_n (pc := 44) (k0 := 2) E dX11_nextOrder_44 rfl rfl ?_
      refine z_icmp_le (pc := 45) (tgt := 63) E dX11_nextOrder_45 (by decide) (fun c11 => ?_) (fun c11 => ?_)
      · have hf := kB_t hf c11
        exact B63 SA x1 x2 x3 hf
      · have hf := kB_f hf c11
        refine z_aload_n (pc := 48) (k0 := 0) E dX11_nextOrder_48 rfl rfl ?_
        refine z_iload_n (pc := 49) (k0 := 3) E dX11_nextOrder_49 rfl rfl ?_
        obtain ⟨c12, hf⟩ := kO_e hf
        refine lA_0 (pc := 50) (i := 0) E rfl c12 dX11_nextOrder_50 ?_
        refine z_aload_n (pc := 51) (k0 := 0) E dX11_nextOrder_51 rfl rfl ?_
        refine z_iload_n (pc := 52) (k0 := 2) E dX11_nextOrder_52 rfl rfl ?_
        obtain ⟨c13, hf⟩ := kO_e hf
        refine lA_0 (pc := 53) (i := 0) E rfl c13 dX11_nextOrder_53 ?_
        refine z_icmp_ge (pc := 54) (tgt := 63) E dX11_nextOrder_54 (by decide) (fun c14 => ?_) (fun c14 => ?_)
        · have hf := kB_t hf c14
          exact B63 SA x1 x2 x3 hf
        · have hf := kB_f hf c14
          obtain ⟨v15, e_v15, hf⟩ := kL_e hf
          refine z_iinc (pc := 57) (k0 := 3) (v := v15) (lv' := [(3, .int v15), (0, .ref gA), (1, .int x1), (2, .int x2)]) E dX11_nextOrder_57 rfl e_v15 (by decide) rfl ?_
          refine z_goto (pc := 60) (tgt := 43) E dX11_nextOrder_60 (by decide) ?_
          refine z_sub [1, 2, 3, 0] (lv' := [(0, .ref gA), (1, .int x1), (2, .int x2), (3, .int v15)]) rfl ?_
          exact ih43 SA x1 x2 v15 hf
  have B33 : ∀ (SA : (Nat → Int32)) (x1 : Int32) (x2 : Int32), f_X11_nextOrder_b33 N SA x1 x2 = some (r0, OA) → zJ p l e rm_X11_nextOrder s m args below meth c (zQ G ct (some (.int r0)) [wA gA 5 ct OA] A below args s 0 0) A G 6 0 0 [wA gA 5 ct SA] [(0, .ref gA), (1, .int x1), (2, .int x2)] 33 [] := by
    intro SA x1 x2 hf
    unfold f_X11_nextOrder_b33 at hf
    refine z_iload_n (pc := 33) (k0 := 2) E dX11_nextOrder_33 rfl rfl ?_
    refine z_if_ge (pc := 34) (tgt := 39) E dX11_nextOrder_34 (by decide) (fun c9 => ?_) (fun c9 => ?_)
    · have hf := kB_t hf c9
      refine z_iload_n (pc := 39) (k0 := 1) E dX11_nextOrder_39 rfl rfl ?_
      refine z_iconst (pc := 40) (v := 1) E dX11_nextOrder_40 (by decide) ?_
      obtain ⟨v10, e_v10, hf⟩ := kL_e hf
      refine z_isub (pc := 41) (v := v10) E dX11_nextOrder_41 e_v10 ?_
      refine z_istore_n (pc := 42) (lv' := [(3, .int v10), (0, .ref gA), (1, .int x1), (2, .int x2)]) E dX11_nextOrder_42 rfl (by decide) rfl ?_
      refine z_sub [1, 2, 3, 0] (lv' := [(0, .ref gA), (1, .int x1), (2, .int x2), (3, .int v10)]) rfl ?_
      exact L43 N SA x1 x2 v10 hf
    · have hf := kB_f hf c9
      refine z_iconst (pc := 37) (v := 0) E dX11_nextOrder_37 (by decide) ?_
      cases hf
      exact z_zret E hr (by decide) dX11_nextOrder_38
  have L12 : ∀ (n12 : Nat) (SA : (Nat → Int32)) (x1 : Int32) (x2 : Int32), f_X11_nextOrder_l12 N n12 SA x1 x2 = some (r0, OA) → zJ p l e rm_X11_nextOrder s m args below meth c (zQ G ct (some (.int r0)) [wA gA 5 ct OA] A below args s 0 0) A G 6 0 0 [wA gA 5 ct SA] [(0, .ref gA), (1, .int x1), (2, .int x2)] 12 [] := by
    intro n12
    induction n12 with
    | zero =>
      intro SA x1 x2 hf
      rw [f_X11_nextOrder_l12_z] at hf
      cases hf
    | succ n12 ih12 =>
      intro SA x1 x2 hf
      rw [f_X11_nextOrder_l12_s] at hf
      refine z_iload_n (pc := 12) (k0 := 2) E dX11_nextOrder_12 rfl rfl ?_
      refine z_if_lt (pc := 13) (tgt := 33) E dX11_nextOrder_13 (by decide) (fun c3 => ?_) (fun c3 => ?_)
      · have hf := kB_t hf c3
        exact B33 SA x1 x2 hf
      · have hf := kB_f hf c3
        refine z_aload_n (pc := 16) (k0 := 0) E dX11_nextOrder_16 rfl rfl ?_
        refine z_iload_n (pc := 17) (k0 := 2) E dX11_nextOrder_17 rfl rfl ?_
        obtain ⟨c4, hf⟩ := kO_e hf
        refine lA_0 (pc := 18) (i := 0) E rfl c4 dX11_nextOrder_18 ?_
        refine z_aload_n (pc := 19) (k0 := 0) E dX11_nextOrder_19 rfl rfl ?_
        refine z_iload_n (pc := 20) (k0 := 2) E dX11_nextOrder_20 rfl rfl ?_
        refine z_iconst (pc := 21) (v := 1) E dX11_nextOrder_21 (by decide) ?_
        obtain ⟨v5, e_v5, hf⟩ := kL_e hf
        refine z_iadd (pc := 22) (v := v5) E dX11_nextOrder_22 e_v5 ?_
        obtain ⟨c6, hf⟩ := kO_e hf
        refine lA_0 (pc := 23) (i := 0) E rfl c6 dX11_nextOrder_23 ?_
        refine z_icmp_le (pc := 24) (tgt := 33) E dX11_nextOrder_24 (by decide) (fun c7 => ?_) (fun c7 => ?_)
        · have hf := kB_t hf c7
          exact B33 SA x1 x2 hf
        · have hf := kB_f hf c7
          obtain ⟨v8, e_v8, hf⟩ := kL_e hf
          refine z_iinc (pc := 27) (k0 := 2) (v := v8) (lv' := [(2, .int v8), (0, .ref gA), (1, .int x1)]) E dX11_nextOrder_27 rfl e_v8 (by decide) rfl ?_
          refine z_goto (pc := 30) (tgt := 12) E dX11_nextOrder_30 (by decide) ?_
          refine z_sub [1, 2, 0] (lv' := [(0, .ref gA), (1, .int x1), (2, .int v8)]) rfl ?_
          exact ih12 SA x1 v8 hf
  unfold f_X11_nextOrder at hf
  refine z_iload_n (pc := 0) (k0 := 1) E dX11_nextOrder_0 rfl rfl ?_
  refine z_aload_n (pc := 1) (k0 := 0) E dX11_nextOrder_1 rfl rfl ?_
  refine nA_0 (pc := 2) (i := 0) E rfl dX11_nextOrder_2 ?_
  refine z_icmp_le (pc := 3) (tgt := 8) E dX11_nextOrder_3 (by decide) (fun c1 => ?_) (fun c1 => ?_)
  · have hf := kB_t hf c1
    refine z_iload_n (pc := 8) (k0 := 1) E dX11_nextOrder_8 rfl rfl ?_
    refine z_iconst (pc := 9) (v := 2) E dX11_nextOrder_9 (by decide) ?_
    obtain ⟨v2, e_v2, hf⟩ := kL_e hf
    refine z_isub (pc := 10) (v := v2) E dX11_nextOrder_10 e_v2 ?_
    refine z_istore_n (pc := 11) (lv' := [(2, .int v2), (0, .ref gA), (1, .int a2)]) E dX11_nextOrder_11 rfl (by decide) rfl ?_
    refine z_sub [1, 2, 0] (lv' := [(0, .ref gA), (1, .int a2), (2, .int v2)]) rfl ?_
    exact L12 N SA a2 v2 hf
  · have hf := kB_f hf c1
    refine z_iconst (pc := 6) (v := 0) E dX11_nextOrder_6 (by decide) ?_
    cases hf
    exact z_zret E hr (by decide) dX11_nextOrder_7
noncomputable def f_X11_bestOrder_b124 (N : Nat) (SX : zRS) (SN : zHS) (SK : zHS) (SR : zRS) (SV : (Nat → Nat → Int64)) (SG : (Nat → Int32)) (SD : (List (Nat × zPS))) (k46 : zTS → zHS → ((Nat → Int32)) → ((Nat → Int32)) → ((List ((Nat → Nat) × zQS))) → (Option Nat) → Int32 → Int32 → Int32 → Int32 → Option (Int32 × zTS × zHS × ((Nat → Int32)) × ((Nat → Int32)) × ((List ((Nat → Nat) × zQS))))) (ST : zTS) (SH : zHS) (SY : (Nat → Int32)) (SZ : (Nat → Int32)) (SE : (List ((Nat → Nat) × zQS))) (x1 : Option Nat) (x2 : Int32) (x3 : Int32) (x5 : Int32) : Option (Int32 × zTS × zHS × ((Nat → Int32)) × ((Nat → Int32)) × ((List ((Nat → Nat) × zQS)))) := kD (f_X11_nextOrder N SY x2) (fun r20 S_21 => kL (x5 + 1) (fun v23 => k46 ST SH S_21 SZ SE x1 x2 x3 r20 v23))
noncomputable def f_X11_bestOrder_l46 (N : Nat) (SX : zRS) (SN : zHS) (SK : zHS) (SR : zRS) (SV : (Nat → Nat → Int64)) (SG : (Nat → Int32)) (SD : (List (Nat × zPS))) : Nat → zTS → zHS → ((Nat → Int32)) → ((Nat → Int32)) → ((List ((Nat → Nat) × zQS))) → (Option Nat) → Int32 → Int32 → Int32 → Int32 → Option (Int32 × zTS × zHS × ((Nat → Int32)) × ((Nat → Int32)) × ((List ((Nat → Nat) × zQS)))) := fun n => Nat.rec (motive := fun _ => zTS → zHS → ((Nat → Int32)) → ((Nat → Int32)) → ((List ((Nat → Nat) × zQS))) → (Option Nat) → Int32 → Int32 → Int32 → Int32 → Option (Int32 × zTS × zHS × ((Nat → Int32)) × ((Nat → Int32)) × ((List ((Nat → Nat) × zQS))))) (fun _ _ _ _ _ _ _ _ _ _ => none) (fun _ ih ST SH SY SZ SE x1 x2 x3 x4 x5 => kB (120 ≤ x5) (some (x3, ST, SH, SY, SZ, SE)) (kB (x4 = 0) (some (x3, ST, SH, SY, SZ, SE)) (kD (f_X10_start N ST SH SN SD) (fun S_8 S_9 => kD (f_X10_afresh N S_8 S_9 SY) (fun S_11 S_12 => kD3 (f_X10_run N S_11 S_12 SD SE x1 x1 60) (fun S_14 S_15 S_16 => kB ((S_14.1 6) ≤ x3) (f_X11_bestOrder_b124 N SX SN SK SR SV SG SD ih S_14 S_15 SY SZ S_16 x1 x2 x3 x5) (kL (va_cpy SY SZ (Int32.toNatClampNeg 0) (Int32.toNatClampNeg 0) (Int32.toNatClampNeg 5)) (fun SZ_19 => f_X11_bestOrder_b124 N SX SN SK SR SV SG SD ih S_14 S_15 SY SZ_19 S_16 x1 x2 (S_14.1 6) x5)))))))) n
theorem f_X11_bestOrder_l46_z (N : Nat) (SX : zRS) (SN : zHS) (SK : zHS) (SR : zRS) (SV : (Nat → Nat → Int64)) (SG : (Nat → Int32)) (SD : (List (Nat × zPS))) (ST : zTS) (SH : zHS) (SY : (Nat → Int32)) (SZ : (Nat → Int32)) (SE : (List ((Nat → Nat) × zQS))) (x1 : Option Nat) (x2 : Int32) (x3 : Int32) (x4 : Int32) (x5 : Int32) : f_X11_bestOrder_l46 N SX SN SK SR SV SG SD 0 ST SH SY SZ SE x1 x2 x3 x4 x5 = none := rfl
theorem f_X11_bestOrder_l46_s (N : Nat) (SX : zRS) (SN : zHS) (SK : zHS) (SR : zRS) (SV : (Nat → Nat → Int64)) (SG : (Nat → Int32)) (SD : (List (Nat × zPS))) (n : Nat) (ST : zTS) (SH : zHS) (SY : (Nat → Int32)) (SZ : (Nat → Int32)) (SE : (List ((Nat → Nat) × zQS))) (x1 : Option Nat) (x2 : Int32) (x3 : Int32) (x4 : Int32) (x5 : Int32) : f_X11_bestOrder_l46 N SX SN SK SR SV SG SD (n + 1) ST SH SY SZ SE x1 x2 x3 x4 x5 = kB (120 ≤ x5) (some (x3, ST, SH, SY, SZ, SE)) (kB (x4 = 0) (some (x3, ST, SH, SY, SZ, SE)) (kD (f_X10_start N ST SH SN SD) (fun S_8 S_9 => kD (f_X10_afresh N S_8 S_9 SY) (fun S_11 S_12 => kD3 (f_X10_run N S_11 S_12 SD SE x1 x1 60) (fun S_14 S_15 S_16 => kB ((S_14.1 6) ≤ x3) (f_X11_bestOrder_b124 N SX SN SK SR SV SG SD (f_X11_bestOrder_l46 N SX SN SK SR SV SG SD n) S_14 S_15 SY SZ S_16 x1 x2 x3 x5) (kL (va_cpy SY SZ (Int32.toNatClampNeg 0) (Int32.toNatClampNeg 0) (Int32.toNatClampNeg 5)) (fun SZ_19 => f_X11_bestOrder_b124 N SX SN SK SR SV SG SD (f_X11_bestOrder_l46 N SX SN SK SR SV SG SD n) S_14 S_15 SY SZ_19 S_16 x1 x2 (S_14.1 6) x5))))))) := rfl
noncomputable def f_X11_bestOrder_l13 (N : Nat) (SX : zRS) (SN : zHS) (SK : zHS) (SR : zRS) (SV : (Nat → Nat → Int64)) (SG : (Nat → Int32)) (SD : (List (Nat × zPS))) : Nat → zTS → zHS → ((Nat → Int32)) → ((Nat → Int32)) → ((List ((Nat → Nat) × zQS))) → (Option Nat) → Int32 → Int32 → Int32 → Option (Int32 × zTS × zHS × ((Nat → Int32)) × ((Nat → Int32)) × ((List ((Nat → Nat) × zQS)))) := fun n => Nat.rec (motive := fun _ => zTS → zHS → ((Nat → Int32)) → ((Nat → Int32)) → ((List ((Nat → Nat) × zQS))) → (Option Nat) → Int32 → Int32 → Int32 → Option (Int32 × zTS × zHS × ((Nat → Int32)) × ((Nat → Int32)) × ((List ((Nat → Nat) × zQS))))) (fun _ _ _ _ _ _ _ _ _ => none) (fun _ ih ST SH SY SZ SE x1 x2 x3 x4 => kB (x2 ≤ x4) (f_X11_bestOrder_l46 N SX SN SK SR SV SG SD N ST SH SY SZ SE x1 x2 x3 1 0) (kB (5 ≤ x4) (f_X11_bestOrder_l46 N SX SN SK SR SV SG SD N ST SH SY SZ SE x1 x2 x3 1 0) (kO (¬ (x4 < 0 ∨ 5 ≤ Int32.toNatClampNeg x4)) (kL (upd SY (Int32.toNatClampNeg x4) x4) (fun SY_4 => kL (x4 + 1) (fun v5 => ih ST SH SY_4 SZ SE x1 x2 x3 v5)))))) n
theorem f_X11_bestOrder_l13_z (N : Nat) (SX : zRS) (SN : zHS) (SK : zHS) (SR : zRS) (SV : (Nat → Nat → Int64)) (SG : (Nat → Int32)) (SD : (List (Nat × zPS))) (ST : zTS) (SH : zHS) (SY : (Nat → Int32)) (SZ : (Nat → Int32)) (SE : (List ((Nat → Nat) × zQS))) (x1 : Option Nat) (x2 : Int32) (x3 : Int32) (x4 : Int32) : f_X11_bestOrder_l13 N SX SN SK SR SV SG SD 0 ST SH SY SZ SE x1 x2 x3 x4 = none := rfl
theorem f_X11_bestOrder_l13_s (N : Nat) (SX : zRS) (SN : zHS) (SK : zHS) (SR : zRS) (SV : (Nat → Nat → Int64)) (SG : (Nat → Int32)) (SD : (List (Nat × zPS))) (n : Nat) (ST : zTS) (SH : zHS) (SY : (Nat → Int32)) (SZ : (Nat → Int32)) (SE : (List ((Nat → Nat) × zQS))) (x1 : Option Nat) (x2 : Int32) (x3 : Int32) (x4 : Int32) : f_X11_bestOrder_l13 N SX SN SK SR SV SG SD (n + 1) ST SH SY SZ SE x1 x2 x3 x4 = kB (x2 ≤ x4) (f_X11_bestOrder_l46 N SX SN SK SR SV SG SD N ST SH SY SZ SE x1 x2 x3 1 0) (kB (5 ≤ x4) (f_X11_bestOrder_l46 N SX SN SK SR SV SG SD N ST SH SY SZ SE x1 x2 x3 1 0) (kO (¬ (x4 < 0 ∨ 5 ≤ Int32.toNatClampNeg x4)) (kL (upd SY (Int32.toNatClampNeg x4) x4) (fun SY_4 => kL (x4 + 1) (fun v5 => (f_X11_bestOrder_l13 N SX SN SK SR SV SG SD n) ST SH SY_4 SZ SE x1 x2 x3 v5))))) := rfl
noncomputable def f_X11_bestOrder (N : Nat) (SX : zRS) (SN : zHS) (SK : zHS) (ST : zTS) (SH : zHS) (SR : zRS) (SV : (Nat → Nat → Int64)) (SG : (Nat → Int32)) (SY : (Nat → Int32)) (SZ : (Nat → Int32)) (SD : (List (Nat × zPS))) (SE : (List ((Nat → Nat) × zQS))) (a1 : Option Nat) : Option (Int32 × zTS × zHS × ((Nat → Int32)) × ((Nat → Int32)) × ((List ((Nat → Nat) × zQS)))) := f_X11_bestOrder_l13 N SX SN SK SR SV SG SD N ST SH SY SZ SE a1 (SN.1 7) (-1) 0
theorem wv_X11_bestOrder : zWV RX11 yX11_bestOrder cX11_bestOrder 6 (some .int) 1 := ⟨wd_36_23, wd_37_0, wd_1_2, wd_37_1, by decide +kernel⟩
def rm_X11_bestOrder : Room := { frames := 6, cells := 0, slots := 0, locals := 171 }
set_option maxHeartbeats 4000000 in
set_option maxRecDepth 100000 in
theorem c_X11_bestOrder {l : Launch} {G : va_G} {ct : Nat → ClassId} {aX : Nat → Nat} {aN : Nat → Nat} {aK : Nat → Nat} {aT : Nat → Nat} {aH : Nat → Nat} {aR : Nat → Nat} {aV : Nat → Nat} {gG : Nat} {gY : Nat} {gZ : Nat} {N : Nat} {SX : zRS} {SN : zHS} {SK : zHS} {ST : zTS} {SH : zHS} {SR : zRS} {SV : (Nat → Nat → Int64)} {SG : (Nat → Int32)} {SY : (Nat → Int32)} {SZ : (Nat → Int32)} {SD : (List (Nat × zPS))} {SE : (List ((Nat → Nat) × zQS))} {a1 : Option Nat} {r0 : Int32} {OT : zTS} {OH : zHS} {OY : (Nat → Int32)} {OZ : (Nat → Int32)} {OE : (List ((Nat → Nat) × zQS))} (hf : f_X11_bestOrder N SX SN SK ST SH SR SV SG SY SZ SD SE a1 = some (r0, OT, OH, OY, OZ, OE)) : zC l yX11_bestOrder cX11_bestOrder 6 (some .int) rm_X11_bestOrder G ct [.ref (aX 200), va_rf a1] [wX aX (aN 200) (aK 200) (aT 200) (aR 200) (aV 6) gG gY gZ ct SX, wH aN ct SN, wH aK ct SK, wT aT (aH 200) ct ST, wH aH ct SH, wR aR ct SR, wV aV ct SV, wA gG 21 ct SG, wA gY 5 ct SY, wA gZ 5 ct SZ, wDp gG SD, wDh ct SE] [wX aX (aN 200) (aK 200) (aT 200) (aR 200) (aV 6) gG gY gZ ct SX, wH aN ct SN, wH aK ct SK, wT aT (aH 200) ct OT, wH aH ct OH, wR aR ct SR, wV aV ct SV, wA gG 21 ct SG, wA gY 5 ct OY, wA gZ 5 ct OZ, wDp gG SD, wDh ct OE] (some (.int r0)) 0 0 := by
  refine z_enter (own := RX11) (lv := [(0, .ref (aX 200)), (1, va_rf a1)]) (by decide) rfl (by simp [lg_sl, zcat, zcr, zci, zcl]) (by simp [lv_args, zcat, zcr, zci, zcl]) ?_
  intro p e s m args below meth c A E hr hnm
  have L46 : ∀ (n46 : Nat) (ST : zTS) (SH : zHS) (SY : (Nat → Int32)) (SZ : (Nat → Int32)) (SE : (List ((Nat → Nat) × zQS))) (x1 : Option Nat) (x2 : Int32) (x3 : Int32) (x4 : Int32) (x5 : Int32), f_X11_bestOrder_l46 N SX SN SK SR SV SG SD n46 ST SH SY SZ SE x1 x2 x3 x4 x5 = some (r0, OT, OH, OY, OZ, OE) → zJ p l e rm_X11_bestOrder s m args below meth c (zQ G ct (some (.int r0)) [wX aX (aN 200) (aK 200) (aT 200) (aR 200) (aV 6) gG gY gZ ct SX, wH aN ct SN, wH aK ct SK, wT aT (aH 200) ct OT, wH aH ct OH, wR aR ct SR, wV aV ct SV, wA gG 21 ct SG, wA gY 5 ct OY, wA gZ 5 ct OZ, wDp gG SD, wDh ct OE] A below args s 0 0) A G 6 0 0 [wX aX (aN 200) (aK 200) (aT 200) (aR 200) (aV 6) gG gY gZ ct SX, wH aN ct SN, wH aK ct SK, wT aT (aH 200) ct ST, wH aH ct SH, wR aR ct SR, wV aV ct SV, wA gG 21 ct SG, wA gY 5 ct SY, wA gZ 5 ct SZ, wDp gG SD, wDh ct SE] [(0, .ref (aX 200)), (1, va_rf x1), (2, .int x2), (3, .int x3), (4, .int x4), (5, .int x5)] 46 [] := by
    intro n46
    induction n46 with
    | zero =>
      intro ST SH SY SZ SE x1 x2 x3 x4 x5 hf
      rw [f_X11_bestOrder_l46_z] at hf
      cases hf
    | succ n46 ih46 =>
      have B124 : ∀ (ST : zTS) (SH : zHS) (SY : (Nat → Int32)) (SZ : (Nat → Int32)) (SE : (List ((Nat → Nat) × zQS))) (x1 : Option Nat) (x2 : Int32) (x3 : Int32) (x5 : Int32), f_X11_bestOrder_b124 N SX SN SK SR SV SG SD (f_X11_bestOrder_l46 N SX SN SK SR SV SG SD n46) ST SH SY SZ SE x1 x2 x3 x5 = some (r0, OT, OH, OY, OZ, OE) → zJ p l e rm_X11_bestOrder s m args below meth c (zQ G ct (some (.int r0)) [wX aX (aN 200) (aK 200) (aT 200) (aR 200) (aV 6) gG gY gZ ct SX, wH aN ct SN, wH aK ct SK, wT aT (aH 200) ct OT, wH aH ct OH, wR aR ct SR, wV aV ct SV, wA gG 21 ct SG, wA gY 5 ct OY, wA gZ 5 ct OZ, wDp gG SD, wDh ct OE] A below args s 0 0) A G 6 0 0 [wX aX (aN 200) (aK 200) (aT 200) (aR 200) (aV 6) gG gY gZ ct SX, wH aN ct SN, wH aK ct SK, wT aT (aH 200) ct ST, wH aH ct SH, wR aR ct SR, wV aV ct SV, wA gG 21 ct SG, wA gY 5 ct SY, wA gZ 5 ct SZ, wDp gG SD, wDh ct SE] [(0, .ref (aX 200)), (1, va_rf x1), (2, .int x2), (3, .int x3), (5, .int x5)] 124 [] := by
        intro ST SH SY SZ SE x1 x2 x3 x5 hf
        unfold f_X11_bestOrder_b124 at hf
        refine z_aload_n (pc := 124) (k0 := 0) E dX11_bestOrder_124 rfl rfl ?_
        refine gX_8 (pc := 125) (i := 0) E rfl wd_2_9 dX11_bestOrder_125 ?_
        refine z_iload_n (pc := 128) (k0 := 2) E dX11_bestOrder_128 rfl rfl ?_
        obtain ⟨r20, S_21, h22, hf⟩ := kD_e hf
        refine z_callS0 (pc := 129) (is := [8]) (n := 2) (As := [.ref gY, .int x2]) (st := []) (st' := [.int r20]) (C2 := [wX aX (aN 200) (aK 200) (aT 200) (aR 200) (aV 6) gG gY gZ ct SX, wH aN ct SN, wH aK ct SK, wT aT (aH 200) ct ST, wH aH ct SH, wR aR ct SR, wV aV ct SV, wA gG 21 ct SG, wA gY 5 ct S_21, wA gZ 5 ct SZ, wDp gG SD, wDh ct SE]) E (c_X11_nextOrder (l := l) (G := G) (ct := ct) (gA := gY) h22) wv_X11_nextOrder wd_37_11 ⟨Nat.le_of_ble_eq_true rfl, Nat.le_of_ble_eq_true rfl, Nat.le_of_ble_eq_true rfl, Nat.le_of_ble_eq_true rfl⟩ rfl rfl rfl (by decide) rfl rfl rfl (Nat.le_of_ble_eq_true rfl) dX11_bestOrder_129 rfl rfl ?_
        refine z_istore (pc := 132) (lv' := [(4, .int r20), (0, .ref (aX 200)), (1, va_rf x1), (2, .int x2), (3, .int x3), (5, .int x5)]) E dX11_bestOrder_132 (by decide) rfl ?_
        obtain ⟨v23, e_v23, hf⟩ := kL_e hf
        refine z_iinc (pc := 134) (k0 := 5) (v := v23) (lv' := [(5, .int v23), (4, .int r20), (0, .ref (aX 200)), (1, va_rf x1), (2, .int x2), (3, .int x3)]) E dX11_bestOrder_134 rfl e_v23 (by decide) rfl ?_
        refine z_goto (pc := 137) (tgt := 46) E dX11_bestOrder_137 (by decide) ?_
        refine z_sub [2, 3, 4, 5, 1, 0] (lv' := [(0, .ref (aX 200)), (1, va_rf x1), (2, .int x2), (3, .int x3), (4, .int r20), (5, .int v23)]) rfl ?_
        exact ih46 ST SH S_21 SZ SE x1 x2 x3 r20 v23 hf
      intro ST SH SY SZ SE x1 x2 x3 x4 x5 hf
      rw [f_X11_bestOrder_l46_s] at hf
      refine z_iload (pc := 46) (k0 := 5) E dX11_bestOrder_46 rfl ?_
      refine z_bipush (pc := 48) (v := 120) E dX11_bestOrder_48 (by decide) ?_
      refine z_icmp_ge (pc := 50) (tgt := 140) E dX11_bestOrder_50 (by decide) (fun c6 => ?_) (fun c6 => ?_)
      · have hf := kB_t hf c6
        refine z_iload_n (pc := 140) (k0 := 3) E dX11_bestOrder_140 rfl rfl ?_
        cases hf
        exact z_iret E hr dX11_bestOrder_141
      · have hf := kB_f hf c6
        refine z_iload (pc := 53) (k0 := 4) E dX11_bestOrder_53 rfl ?_
        refine z_if_eq (pc := 55) (tgt := 140) E dX11_bestOrder_55 (by decide) (fun c7 => ?_) (fun c7 => ?_)
        · have hf := kB_t hf c7
          refine z_iload_n (pc := 140) (k0 := 3) E dX11_bestOrder_140 rfl rfl ?_
          cases hf
          exact z_iret E hr dX11_bestOrder_141
        · have hf := kB_f hf c7
          refine z_aload_n (pc := 58) (k0 := 0) E dX11_bestOrder_58 rfl rfl ?_
          refine gX_2 (pc := 59) (i := 0) E rfl wd_1_21 dX11_bestOrder_59 ?_
          refine z_aload_n (pc := 62) (k0 := 0) E dX11_bestOrder_62 rfl rfl ?_
          refine gX_0 (pc := 63) (i := 0) E rfl wd_1_16 dX11_bestOrder_63 ?_
          obtain ⟨S_8, S_9, h10, hf⟩ := kD_e hf
          refine z_callV0 (pc := 66) (is := [3, 4, 1, 10]) (n := 1) (As := [.ref (aN 200)]) (st := []) (st' := []) (C2 := [wX aX (aN 200) (aK 200) (aT 200) (aR 200) (aV 6) gG gY gZ ct SX, wH aN ct SN, wH aK ct SK, wT aT (aH 200) ct S_8, wH aH ct S_9, wR aR ct SR, wV aV ct SV, wA gG 21 ct SG, wA gY 5 ct SY, wA gZ 5 ct SZ, wDp gG SD, wDh ct SE]) E (c_X10_start (l := l) (G := G) (ct := ct) (aT := aT) (aH := aH) (aK := aN) (gG := gG) h10) wv_X10_start wd_32_12 ⟨Nat.le_of_ble_eq_true rfl, Nat.le_of_ble_eq_true rfl, Nat.le_of_ble_eq_true rfl, Nat.le_of_ble_eq_true rfl⟩ rfl rfl rfl (by decide) rfl rfl (zrT (j := 0) rfl) rfl (Nat.le_of_ble_eq_true rfl) dX11_bestOrder_66 rfl rfl ?_
          refine z_aload_n (pc := 69) (k0 := 0) E dX11_bestOrder_69 rfl rfl ?_
          refine gX_2 (pc := 70) (i := 0) E rfl wd_1_21 dX11_bestOrder_70 ?_
          refine z_aload_n (pc := 73) (k0 := 0) E dX11_bestOrder_73 rfl rfl ?_
          refine gX_8 (pc := 74) (i := 0) E rfl wd_2_9 dX11_bestOrder_74 ?_
          obtain ⟨S_11, S_12, h13, hf⟩ := kD_e hf
          refine z_callV0 (pc := 77) (is := [3, 4, 8]) (n := 1) (As := [.ref gY]) (st := []) (st' := []) (C2 := [wX aX (aN 200) (aK 200) (aT 200) (aR 200) (aV 6) gG gY gZ ct SX, wH aN ct SN, wH aK ct SK, wT aT (aH 200) ct S_11, wH aH ct S_12, wR aR ct SR, wV aV ct SV, wA gG 21 ct SG, wA gY 5 ct SY, wA gZ 5 ct SZ, wDp gG SD, wDh ct SE]) E (c_X10_afresh (l := l) (G := G) (ct := ct) (aT := aT) (aH := aH) (gA := gY) h13) wv_X10_afresh wd_37_4 ⟨Nat.le_of_ble_eq_true rfl, Nat.le_of_ble_eq_true rfl, Nat.le_of_ble_eq_true rfl, Nat.le_of_ble_eq_true rfl⟩ rfl rfl rfl (by decide) rfl rfl (zrT (j := 0) rfl) rfl (Nat.le_of_ble_eq_true rfl) dX11_bestOrder_77 rfl rfl ?_
          refine z_aload_n (pc := 80) (k0 := 0) E dX11_bestOrder_80 rfl rfl ?_
          refine gX_2 (pc := 81) (i := 0) E rfl wd_1_21 dX11_bestOrder_81 ?_
          refine z_qload_n (pc := 84) (k0 := 1) E dX11_bestOrder_84 rfl rfl ?_
          refine z_qload_n (pc := 85) (k0 := 1) E dX11_bestOrder_85 rfl rfl ?_
          refine z_bipush (pc := 86) (v := 60) E dX11_bestOrder_86 (by decide) ?_
          obtain ⟨S_14, S_15, S_16, h17, hf⟩ := kD3_e hf
          refine z_callV0 (pc := 88) (is := [3, 4, 10, 11]) (n := 3) (As := [va_rf x1, va_rf x1, .int 60]) (st := []) (st' := []) (C2 := [wX aX (aN 200) (aK 200) (aT 200) (aR 200) (aV 6) gG gY gZ ct SX, wH aN ct SN, wH aK ct SK, wT aT (aH 200) ct S_14, wH aH ct S_15, wR aR ct SR, wV aV ct SV, wA gG 21 ct SG, wA gY 5 ct SY, wA gZ 5 ct SZ, wDp gG SD, wDh ct S_16]) E (c_X10_run (l := l) (G := G) (ct := ct) (aT := aT) (aH := aH) (gG := gG) h17) wv_X10_run wd_33_7 ⟨Nat.le_of_ble_eq_true rfl, Nat.le_of_ble_eq_true rfl, Nat.le_of_ble_eq_true rfl, Nat.le_of_ble_eq_true rfl⟩ rfl rfl rfl (by decide) rfl rfl (zrT (j := 0) rfl) rfl (Nat.le_of_ble_eq_true rfl) dX11_bestOrder_88 rfl rfl ?_
          refine z_aload_n (pc := 91) (k0 := 0) E dX11_bestOrder_91 rfl rfl ?_
          refine gX_2 (pc := 92) (i := 0) E rfl wd_1_21 dX11_bestOrder_92 ?_
          refine gT_6 (pc := 95) (i := 3) E rfl wd_37_2 dX11_bestOrder_95 ?_
          refine z_iload_n (pc := 98) (k0 := 3) E dX11_bestOrder_98 rfl rfl ?_
          refine z_icmp_le (pc := 99) (tgt := 124) E dX11_bestOrder_99 (by decide) (fun c18 => ?_) (fun c18 => ?_)
          · have hf := kB_t hf c18
            refine z_sub [0, 1, 2, 3, 5] (lv' := [(0, .ref (aX 200)), (1, va_rf x1), (2, .int x2), (3, .int x3), (5, .int x5)]) rfl ?_
            exact B124 S_14 S_15 SY SZ S_16 x1 x2 x3 x5 hf
          · have hf := kB_f hf c18
            refine z_aload_n (pc := 102) (k0 := 0) E dX11_bestOrder_102 rfl rfl ?_
            refine gX_2 (pc := 103) (i := 0) E rfl wd_1_21 dX11_bestOrder_103 ?_
            refine gT_6 (pc := 106) (i := 3) E rfl wd_37_2 dX11_bestOrder_106 ?_
            refine z_istore_n (pc := 109) (lv' := [(3, .int (S_14.1 6)), (0, .ref (aX 200)), (1, va_rf x1), (2, .int x2), (4, .int x4), (5, .int x5)]) E dX11_bestOrder_109 rfl (by decide) rfl ?_
            refine z_aload_n (pc := 110) (k0 := 1) E dX11_bestOrder_110 rfl rfl ?_
            refine gX_8 (pc := 111) (i := 0) E rfl wd_2_9 dX11_bestOrder_111 ?_
            refine z_iconst (pc := 114) (v := 0) E dX11_bestOrder_114 (by decide) ?_
            refine z_aload_n (pc := 115) (k0 := 1) E dX11_bestOrder_115 rfl rfl ?_
            refine gX_9 (pc := 116) (i := 0) E rfl wd_2_10 dX11_bestOrder_116 ?_
            refine z_iconst (pc := 119) (v := 0) E dX11_bestOrder_119 (by decide) ?_
            refine z_iconst (pc := 120) (v := 5) E dX11_bestOrder_120 (by decide) ?_
            obtain ⟨SZ_19, e_SZ_19, hf⟩ := kL_e hf
            refine z_copyi (pc := 121) (i0 := 8) (j0 := 0) (i1 := 9) (j1 := 0) (w2 := wA gZ 5 ct SZ_19) E wd_37_3 wd_25_10 wd_25_11 wd_25_12 rfl rfl rfl rfl (by decide) (by decide) (by decide) (by decide) (by decide) (by rw [e_SZ_19]; rfl) ⟨Nat.le_of_ble_eq_true rfl, Nat.le_of_ble_eq_true rfl⟩ dX11_bestOrder_121 ?_
            show zJ p l e rm_X11_bestOrder s m args below meth c (zQ G ct (some (.int r0)) [wX aX (aN 200) (aK 200) (aT 200) (aR 200) (aV 6) gG gY gZ ct SX, wH aN ct SN, wH aK ct SK, wT aT (aH 200) ct OT, wH aH ct OH, wR aR ct SR, wV aV ct SV, wA gG 21 ct SG, wA gY 5 ct OY, wA gZ 5 ct OZ, wDp gG SD, wDh ct OE] A below args s 0 0) A G 6 0 0 [wX aX (aN 200) (aK 200) (aT 200) (aR 200) (aV 6) gG gY gZ ct SX, wH aN ct SN, wH aK ct SK, wT aT (aH 200) ct S_14, wH aH ct S_15, wR aR ct SR, wV aV ct SV, wA gG 21 ct SG, wA gY 5 ct SY, wA gZ 5 ct SZ_19, wDp gG SD, wDh ct S_16] [(3, .int (S_14.1 6)), (0, .ref (aX 200)), (1, va_rf x1), (2, .int x2), (4, .int x4), (5, .int x5)] 124 []
            refine z_sub [1, 2, 3, 0, 5] (lv' := [(0, .ref (aX 200)), (1, va_rf x1), (2, .int x2), (3, .int (S_14.1 6)), (5, .int x5)]) rfl ?_
            exact B124 S_14 S_15 SY SZ_19 S_16 x1 x2 (S_14.1 6) x5 hf
  have L13 : ∀ (n13 : Nat) (ST : zTS) (SH : zHS) (SY : (Nat → Int32)) (SZ : (Nat → Int32)) (SE : (List ((Nat → Nat) × zQS))) (x1 : Option Nat) (x2 : Int32) (x3 : Int32) (x4 : Int32), f_X11_bestOrder_l13 N SX SN SK SR SV SG SD n13 ST SH SY SZ SE x1 x2 x3 x4 = some (r0, OT, OH, OY, OZ, OE) → zJ p l e rm_X11_bestOrder s m args below meth c (zQ G ct (some (.int r0)) [wX aX (aN 200) (aK 200) (aT 200) (aR 200) (aV 6) gG gY gZ ct SX, wH aN ct SN, wH aK ct SK, wT aT (aH 200) ct OT, wH aH ct OH, wR aR ct SR, wV aV ct SV, wA gG 21 ct SG, wA gY 5 ct OY, wA gZ 5 ct OZ, wDp gG SD, wDh ct OE] A below args s 0 0) A G 6 0 0 [wX aX (aN 200) (aK 200) (aT 200) (aR 200) (aV 6) gG gY gZ ct SX, wH aN ct SN, wH aK ct SK, wT aT (aH 200) ct ST, wH aH ct SH, wR aR ct SR, wV aV ct SV, wA gG 21 ct SG, wA gY 5 ct SY, wA gZ 5 ct SZ, wDp gG SD, wDh ct SE] [(0, .ref (aX 200)), (1, va_rf x1), (2, .int x2), (3, .int x3), (4, .int x4)] 13 [] := by
    intro n13
    induction n13 with
    | zero =>
      intro ST SH SY SZ SE x1 x2 x3 x4 hf
      rw [f_X11_bestOrder_l13_z] at hf
      cases hf
    | succ n13 ih13 =>
      intro ST SH SY SZ SE x1 x2 x3 x4 hf
      rw [f_X11_bestOrder_l13_s] at hf
      refine z_iload (pc := 13) (k0 := 4) E dX11_bestOrder_13 rfl ?_
      refine z_iload_n (pc := 15) (k0 := 2) E dX11_bestOrder_15 rfl rfl ?_
      refine z_icmp_ge (pc := 16) (tgt := 40) E dX11_bestOrder_16 (by decide) (fun c1 => ?_) (fun c1 => ?_)
      · have hf := kB_t hf c1
        refine z_iconst (pc := 40) (v := 1) E dX11_bestOrder_40 (by decide) ?_
        refine z_istore (pc := 41) (lv' := [(4, .int 1), (0, .ref (aX 200)), (1, va_rf x1), (2, .int x2), (3, .int x3)]) E dX11_bestOrder_41 (by decide) rfl ?_
        refine z_iconst (pc := 43) (v := 0) E dX11_bestOrder_43 (by decide) ?_
        refine z_istore (pc := 44) (lv' := [(5, .int 0), (4, .int 1), (0, .ref (aX 200)), (1, va_rf x1), (2, .int x2), (3, .int x3)]) E dX11_bestOrder_44 (by decide) rfl ?_
        refine z_sub [2, 3, 4, 5, 1, 0] (lv' := [(0, .ref (aX 200)), (1, va_rf x1), (2, .int x2), (3, .int x3), (4, .int 1), (5, .int 0)]) rfl ?_
        exact L46 N ST SH SY SZ SE x1 x2 x3 1 0 hf
      · have hf := kB_f hf c1
        refine z_iload (pc := 19) (k0 := 4) E dX11_bestOrder_19 rfl ?_
        refine z_iconst (pc := 21) (v := 5) E dX11_bestOrder_21 (by decide) ?_
        refine z_icmp_ge (pc := 22) (tgt := 40) E dX11_bestOrder_22 (by decide) (fun c2 => ?_) (fun c2 => ?_)
        · have hf := kB_t hf c2
          refine z_iconst (pc := 40) (v := 1) E dX11_bestOrder_40 (by decide) ?_
          refine z_istore (pc := 41) (lv' := [(4, .int 1), (0, .ref (aX 200)), (1, va_rf x1), (2, .int x2), (3, .int x3)]) E dX11_bestOrder_41 (by decide) rfl ?_
          refine z_iconst (pc := 43) (v := 0) E dX11_bestOrder_43 (by decide) ?_
          refine z_istore (pc := 44) (lv' := [(5, .int 0), (4, .int 1), (0, .ref (aX 200)), (1, va_rf x1), (2, .int x2), (3, .int x3)]) E dX11_bestOrder_44 (by decide) rfl ?_
          refine z_sub [2, 3, 4, 5, 1, 0] (lv' := [(0, .ref (aX 200)), (1, va_rf x1), (2, .int x2), (3, .int x3), (4, .int 1), (5, .int 0)]) rfl ?_
          exact L46 N ST SH SY SZ SE x1 x2 x3 1 0 hf
        · have hf := kB_f hf c2
          refine z_aload_n (pc := 25) (k0 := 0) E dX11_bestOrder_25 rfl rfl ?_
          refine gX_8 (pc := 26) (i := 0) E rfl wd_2_9 dX11_bestOrder_26 ?_
          refine z_iload (pc := 29) (k0 := 4) E dX11_bestOrder_29 rfl ?_
          refine z_iload (pc := 31) (k0 := 4) E dX11_bestOrder_31 rfl ?_
          obtain ⟨c3, hf⟩ := kO_e hf
          obtain ⟨SY_4, e_SY_4, hf⟩ := kL_e hf
          refine sA_0 (pc := 33) (i := 8) (S1 := SY_4) E rfl c3 e_SY_4 dX11_bestOrder_33 ?_
          show zJ p l e rm_X11_bestOrder s m args below meth c (zQ G ct (some (.int r0)) [wX aX (aN 200) (aK 200) (aT 200) (aR 200) (aV 6) gG gY gZ ct SX, wH aN ct SN, wH aK ct SK, wT aT (aH 200) ct OT, wH aH ct OH, wR aR ct SR, wV aV ct SV, wA gG 21 ct SG, wA gY 5 ct OY, wA gZ 5 ct OZ, wDp gG SD, wDh ct OE] A below args s 0 0) A G 6 0 0 [wX aX (aN 200) (aK 200) (aT 200) (aR 200) (aV 6) gG gY gZ ct SX, wH aN ct SN, wH aK ct SK, wT aT (aH 200) ct ST, wH aH ct SH, wR aR ct SR, wV aV ct SV, wA gG 21 ct SG, wA gY 5 ct SY_4, wA gZ 5 ct SZ, wDp gG SD, wDh ct SE] [(0, .ref (aX 200)), (1, va_rf x1), (2, .int x2), (3, .int x3), (4, .int x4)] 34 []
          obtain ⟨v5, e_v5, hf⟩ := kL_e hf
          refine z_iinc (pc := 34) (k0 := 4) (v := v5) (lv' := [(4, .int v5), (0, .ref (aX 200)), (1, va_rf x1), (2, .int x2), (3, .int x3)]) E dX11_bestOrder_34 rfl e_v5 (by decide) rfl ?_
          refine z_goto (pc := 37) (tgt := 13) E dX11_bestOrder_37 (by decide) ?_
          refine z_sub [1, 2, 3, 4, 0] (lv' := [(0, .ref (aX 200)), (1, va_rf x1), (2, .int x2), (3, .int x3), (4, .int v5)]) rfl ?_
          exact ih13 ST SH SY_4 SZ SE x1 x2 x3 v5 hf
  unfold f_X11_bestOrder at hf
  refine z_aload_n (pc := 0) (k0 := 0) E dX11_bestOrder_0 rfl rfl ?_
  refine gX_0 (pc := 1) (i := 0) E rfl wd_1_16 dX11_bestOrder_1 ?_
  refine gH_7 (pc := 4) (i := 1) E rfl wd_7_3 dX11_bestOrder_4 ?_
  refine z_istore_n (pc := 7) (lv' := [(2, .int (SN.1 7)), (0, .ref (aX 200)), (1, va_rf a1)]) E dX11_bestOrder_7 rfl (by decide) (by simp [zcat, zcr, zci]) ?_
  refine z_iconst (pc := 8) (v := (-1)) E dX11_bestOrder_8 (by decide) ?_
  refine z_istore_n (pc := 9) (lv' := [(3, .int (-1)), (2, .int (SN.1 7)), (0, .ref (aX 200)), (1, va_rf a1)]) E dX11_bestOrder_9 rfl (by decide) rfl ?_
  refine z_iconst (pc := 10) (v := 0) E dX11_bestOrder_10 (by decide) ?_
  refine z_istore (pc := 11) (lv' := [(4, .int 0), (3, .int (-1)), (2, .int (SN.1 7)), (0, .ref (aX 200)), (1, va_rf a1)]) E dX11_bestOrder_11 (by decide) rfl ?_
  refine z_sub [3, 4, 2, 1, 0] (lv' := [(0, .ref (aX 200)), (1, va_rf a1), (2, .int (SN.1 7)), (3, .int (-1)), (4, .int 0)]) rfl ?_
  exact L13 N ST SH SY SZ SE a1 (SN.1 7) (-1) 0 hf
noncomputable def f_X11_order (N : Nat) (SX : zRS) (SN : zHS) (SK : zHS) (ST : zTS) (SH : zHS) (SR : zRS) (SV : (Nat → Nat → Int64)) (SG : (Nat → Int32)) (SY : (Nat → Int32)) (SZ : (Nat → Int32)) (SD : (List (Nat × zPS))) (SE : (List ((Nat → Nat) × zQS))) (a1 : Int32) (a2 : Int32) : Option (Int32 × zTS × zHS × ((Nat → Int32)) × ((Nat → Int32)) × ((List ((Nat → Nat) × zQS)))) := kC (f_X1_person SN a1) (fun r1 => kN r1 (some ((-1), ST, SH, SY, SZ, SE)) (fun w3 => kB (a2 < (-1)) (some ((-1), ST, SH, SY, SZ, SE)) (kB (a2 < 5) (kB ((SN.1 7) ≤ 5) (kD6 (f_X11_bestOrder N SX SN SK ST SH SR SV SG SY SZ SD SE (some w3)) (fun r8 S_9 S_10 S_11 S_12 S_13 => kB (0 ≤ a2) (kB ((SN.1 7) ≤ a2) (some ((-5), S_9, S_10, S_11, S_12, S_13)) (kO (¬ (a2 < 0 ∨ 5 ≤ Int32.toNatClampNeg a2)) (some ((S_12 (Int32.toNatClampNeg a2)), S_9, S_10, S_11, S_12, S_13)))) (some (r8, S_9, S_10, S_11, S_12, S_13)))) (some ((-9), ST, SH, SY, SZ, SE))) (some ((-1), ST, SH, SY, SZ, SE)))))
theorem wv_X11_order : zWV RX11 yX11_order cX11_order 5 (some .int) 2 := ⟨wd_36_19, wd_36_20, wd_1_2, wd_36_21, by decide +kernel⟩
def rm_X11_order : Room := { frames := 7, cells := 0, slots := 0, locals := 196 }
set_option maxHeartbeats 4000000 in
set_option maxRecDepth 100000 in
theorem c_X11_order {l : Launch} {G : va_G} {ct : Nat → ClassId} {aX : Nat → Nat} {aN : Nat → Nat} {aK : Nat → Nat} {aT : Nat → Nat} {aH : Nat → Nat} {aR : Nat → Nat} {aV : Nat → Nat} {gG : Nat} {gY : Nat} {gZ : Nat} {N : Nat} {SX : zRS} {SN : zHS} {SK : zHS} {ST : zTS} {SH : zHS} {SR : zRS} {SV : (Nat → Nat → Int64)} {SG : (Nat → Int32)} {SY : (Nat → Int32)} {SZ : (Nat → Int32)} {SD : (List (Nat × zPS))} {SE : (List ((Nat → Nat) × zQS))} {a1 : Int32} {a2 : Int32} {r0 : Int32} {OT : zTS} {OH : zHS} {OY : (Nat → Int32)} {OZ : (Nat → Int32)} {OE : (List ((Nat → Nat) × zQS))} (hf : f_X11_order N SX SN SK ST SH SR SV SG SY SZ SD SE a1 a2 = some (r0, OT, OH, OY, OZ, OE)) : zC l yX11_order cX11_order 5 (some .int) rm_X11_order G ct [.ref (aX 200), .int a1, .int a2] [wX aX (aN 200) (aK 200) (aT 200) (aR 200) (aV 6) gG gY gZ ct SX, wH aN ct SN, wH aK ct SK, wT aT (aH 200) ct ST, wH aH ct SH, wR aR ct SR, wV aV ct SV, wA gG 21 ct SG, wA gY 5 ct SY, wA gZ 5 ct SZ, wDp gG SD, wDh ct SE] [wX aX (aN 200) (aK 200) (aT 200) (aR 200) (aV 6) gG gY gZ ct SX, wH aN ct SN, wH aK ct SK, wT aT (aH 200) ct OT, wH aH ct OH, wR aR ct SR, wV aV ct SV, wA gG 21 ct SG, wA gY 5 ct OY, wA gZ 5 ct OZ, wDp gG SD, wDh ct OE] (some (.int r0)) 0 0 := by
  refine z_enter (own := RX11) (lv := [(0, .ref (aX 200)), (1, .int a1), (2, .int a2)]) (by decide) rfl (Nat.le_of_ble_eq_true rfl) rfl ?_
  intro p e s m args below meth c A E hr hnm
  unfold f_X11_order at hf
  refine z_aload_n (pc := 0) (k0 := 0) E dX11_order_0 rfl rfl ?_
  refine gX_0 (pc := 1) (i := 0) E rfl wd_1_16 dX11_order_1 ?_
  refine z_iload_n (pc := 4) (k0 := 1) E dX11_order_4 rfl rfl ?_
  obtain ⟨r1, h2, hf⟩ := kC_e hf
  refine z_callV0 (pc := 5) (is := [1]) (n := 1) (As := [.int a1]) (st := []) (st' := [va_rf r1]) (C2 := [wX aX (aN 200) (aK 200) (aT 200) (aR 200) (aV 6) gG gY gZ ct SX, wH aN ct SN, wH aK ct SK, wT aT (aH 200) ct ST, wH aH ct SH, wR aR ct SR, wV aV ct SV, wA gG 21 ct SG, wA gY 5 ct SY, wA gZ 5 ct SZ, wDp gG SD, wDh ct SE]) E (c_X1_person (l := l) (G := G) (ct := ct) (aH := aN) h2) wv_X1_person wd_11_10 ⟨Nat.le_of_ble_eq_true rfl, Nat.le_of_ble_eq_true rfl, Nat.le_of_ble_eq_true rfl, Nat.le_of_ble_eq_true rfl⟩ rfl rfl rfl (by decide) rfl rfl (zrH (j := 0) rfl) rfl (Nat.le_of_ble_eq_true rfl) dX11_order_5 rfl rfl ?_
  refine z_qstore_n (pc := 8) (lv' := [(3, va_rf r1), (0, .ref (aX 200)), (1, .int a1), (2, .int a2)]) E dX11_order_8 rfl (by decide) rfl ?_
  refine z_qload_n (pc := 9) (k0 := 0) E dX11_order_9 rfl rfl ?_
  refine z_ifnull (pc := 10) (tgt := 23) E dX11_order_10 (by decide) (fun e4 => ?_) (fun w3 e4 => ?_)
  · have hf := kN_n hf e4
    refine z_iconst (pc := 23) (v := (-1)) E dX11_order_23 (by decide) ?_
    cases hf
    exact z_iret E hr dX11_order_24
  · have hf := kN_s hf e4
    have hf_e4 := hf
    subst e4
    have hf := hf_e4
    refine z_iload_n (pc := 13) (k0 := 3) E dX11_order_13 rfl rfl ?_
    refine z_iconst (pc := 14) (v := (-1)) E dX11_order_14 (by decide) ?_
    refine z_icmp_lt (pc := 15) (tgt := 23) E dX11_order_15 (by decide) (fun c5 => ?_) (fun c5 => ?_)
    · have hf := kB_t hf c5
      refine z_iconst (pc := 23) (v := (-1)) E dX11_order_23 (by decide) ?_
      cases hf
      exact z_iret E hr dX11_order_24
    · have hf := kB_f hf c5
      refine z_iload_n (pc := 18) (k0 := 3) E dX11_order_18 rfl rfl ?_
      refine z_iconst (pc := 19) (v := 5) E dX11_order_19 (by decide) ?_
      refine z_icmp_lt (pc := 20) (tgt := 25) E dX11_order_20 (by decide) (fun c6 => ?_) (fun c6 => ?_)
      · have hf := kB_t hf c6
        refine z_aload_n (pc := 25) (k0 := 1) E dX11_order_25 rfl rfl ?_
        refine gX_0 (pc := 26) (i := 0) E rfl wd_1_16 dX11_order_26 ?_
        refine gH_7 (pc := 29) (i := 1) E rfl wd_7_3 dX11_order_29 ?_
        refine z_iconst (pc := 32) (v := 5) E dX11_order_32 (by decide) ?_
        refine z_icmp_le (pc := 33) (tgt := 39) E dX11_order_33 (by decide) (fun c7 => ?_) (fun c7 => ?_)
        · have hf := kB_t hf c7
          refine z_aload_n (pc := 39) (k0 := 1) E dX11_order_39 rfl rfl ?_
          refine z_aload_n (pc := 40) (k0 := 0) E dX11_order_40 rfl rfl ?_
          obtain ⟨r8, S_9, S_10, S_11, S_12, S_13, h14, hf⟩ := kD6_e hf
          refine z_callV0 (pc := 41) (is := [0, 1, 2, 3, 4, 5, 6, 7, 8, 9, 10, 11]) (n := 1) (As := [.ref w3]) (st := []) (st' := [.int r8]) (C2 := [wX aX (aN 200) (aK 200) (aT 200) (aR 200) (aV 6) gG gY gZ ct SX, wH aN ct SN, wH aK ct SK, wT aT (aH 200) ct S_9, wH aH ct S_10, wR aR ct SR, wV aV ct SV, wA gG 21 ct SG, wA gY 5 ct S_11, wA gZ 5 ct S_12, wDp gG SD, wDh ct S_13]) E (c_X11_bestOrder (l := l) (G := G) (ct := ct) (aX := aX) (aN := aN) (aK := aK) (aT := aT) (aH := aH) (aR := aR) (aV := aV) (gG := gG) (gY := gY) (gZ := gZ) h14) wv_X11_bestOrder wd_36_22 ⟨Nat.le_of_ble_eq_true rfl, Nat.le_of_ble_eq_true rfl, Nat.le_of_ble_eq_true rfl, Nat.le_of_ble_eq_true rfl⟩ rfl rfl rfl (by decide) rfl rfl (zrX (j := 0) rfl) rfl (Nat.le_of_ble_eq_true rfl) dX11_order_41 rfl rfl ?_
          refine z_istore (pc := 44) (lv' := [(4, .int r8), (3, .ref w3), (0, .ref (aX 200)), (1, .int a1), (2, .int a2)]) E dX11_order_44 (by decide) rfl ?_
          refine z_iload_n (pc := 46) (k0 := 4) E dX11_order_46 rfl rfl ?_
          refine z_if_ge (pc := 47) (tgt := 53) E dX11_order_47 (by decide) (fun c15 => ?_) (fun c15 => ?_)
          · have hf := kB_t hf c15
            refine z_iload_n (pc := 53) (k0 := 4) E dX11_order_53 rfl rfl ?_
            refine z_aload_n (pc := 54) (k0 := 2) E dX11_order_54 rfl rfl ?_
            refine gX_0 (pc := 55) (i := 0) E rfl wd_1_16 dX11_order_55 ?_
            refine gH_7 (pc := 58) (i := 1) E rfl wd_7_3 dX11_order_58 ?_
            refine z_icmp_ge (pc := 61) (tgt := 73) E dX11_order_61 (by decide) (fun c16 => ?_) (fun c16 => ?_)
            · have hf := kB_t hf c16
              refine z_bipush (pc := 73) (v := (-5)) E dX11_order_73 (by decide) ?_
              cases hf
              exact z_iret E hr dX11_order_75
            · have hf := kB_f hf c16
              refine z_aload_n (pc := 64) (k0 := 2) E dX11_order_64 rfl rfl ?_
              refine gX_9 (pc := 65) (i := 0) E rfl wd_2_10 dX11_order_65 ?_
              refine z_iload_n (pc := 68) (k0 := 4) E dX11_order_68 rfl rfl ?_
              obtain ⟨c17, hf⟩ := kO_e hf
              refine lA_0 (pc := 69) (i := 9) E rfl c17 dX11_order_69 ?_
              refine z_goto (pc := 70) (tgt := 75) E dX11_order_70 (by decide) ?_
              cases hf
              exact z_iret E hr dX11_order_75
          · have hf := kB_f hf c15
            refine z_iload (pc := 50) (k0 := 0) E dX11_order_50 rfl ?_
            cases hf
            exact z_iret E hr dX11_order_52
        · have hf := kB_f hf c7
          refine z_bipush (pc := 36) (v := (-9)) E dX11_order_36 (by decide) ?_
          cases hf
          exact z_iret E hr dX11_order_38
      · have hf := kB_f hf c6
        refine z_iconst (pc := 23) (v := (-1)) E dX11_order_23 (by decide) ?_
        cases hf
        exact z_iret E hr dX11_order_24
