noncomputable def f_X11_at (SX : zRS) (SN : zHS) (SK : zHS) (ST : zTS) (SH : zHS) (SR : zRS) (SV : (Nat → Nat → Int64)) (SG : (Nat → Int32)) (SY : (Nat → Int32)) (SZ : (Nat → Int32)) (SD : (List (Nat × zPS))) (SE : (List ((Nat → Nat) × zQS))) (a1 : Int32) (a2 : Int32) : Option Int32 := kC (f_X1_has SN a1) (fun r1 => kB (r1 = 0) (some ((-1))) (kB (a2 = 0) (kO (¬ (a1 < 0 ∨ 7 ≤ Int32.toNatClampNeg a1)) (some (((SN.2.1 0) (Int32.toNatClampNeg a1))))) (kB (a2 = 1) (kO (¬ (a1 < 0 ∨ 7 ≤ Int32.toNatClampNeg a1)) (some (((SN.2.1 1) (Int32.toNatClampNeg a1))))) (kB (a2 = 2) (kO (¬ (a1 < 0 ∨ 7 ≤ Int32.toNatClampNeg a1)) (some (((SN.2.1 2) (Int32.toNatClampNeg a1))))) (some ((-1)))))))
theorem wv_X11_at : zWV RX11 yX11_at cX11_at 3 (some .int) 2 := ⟨wd_10_12, wd_10_13, wd_1_2, wd_10_14, by decide +kernel⟩
def rm_X11_at : Room := { frames := 1, cells := 0, slots := 0, locals := 21 }
set_option maxHeartbeats 4000000 in
set_option maxRecDepth 100000 in
theorem c_X11_at {l : Launch} {G : va_G} {ct : Nat → ClassId} {aX : Nat → Nat} {aN : Nat → Nat} {aK : Nat → Nat} {aT : Nat → Nat} {aH : Nat → Nat} {aR : Nat → Nat} {aV : Nat → Nat} {gG : Nat} {gY : Nat} {gZ : Nat} {SX : zRS} {SN : zHS} {SK : zHS} {ST : zTS} {SH : zHS} {SR : zRS} {SV : (Nat → Nat → Int64)} {SG : (Nat → Int32)} {SY : (Nat → Int32)} {SZ : (Nat → Int32)} {SD : (List (Nat × zPS))} {SE : (List ((Nat → Nat) × zQS))} {a1 : Int32} {a2 : Int32} {r0 : Int32} (hf : f_X11_at SX SN SK ST SH SR SV SG SY SZ SD SE a1 a2 = some r0) : zC l yX11_at cX11_at 3 (some .int) rm_X11_at G ct [.ref (aX 200), .int a1, .int a2] [wX aX (aN 200) (aK 200) (aT 200) (aR 200) (aV 6) gG gY gZ ct SX, wH aN ct SN, wH aK ct SK, wT aT (aH 200) ct ST, wH aH ct SH, wR aR ct SR, wV aV ct SV, wA gG 21 ct SG, wA gY 5 ct SY, wA gZ 5 ct SZ, wDp gG SD, wDh ct SE] [wX aX (aN 200) (aK 200) (aT 200) (aR 200) (aV 6) gG gY gZ ct SX, wH aN ct SN, wH aK ct SK, wT aT (aH 200) ct ST, wH aH ct SH, wR aR ct SR, wV aV ct SV, wA gG 21 ct SG, wA gY 5 ct SY, wA gZ 5 ct SZ, wDp gG SD, wDh ct SE] (some (.int r0)) 0 0 := by
  refine z_enter (own := RX11) (lv := [(0, .ref (aX 200)), (1, .int a1), (2, .int a2)]) (by decide) rfl (Nat.le_of_ble_eq_true rfl) rfl ?_
  intro p e s m args below meth c A E hr hnm
  unfold f_X11_at at hf
  refine z_aload_n (pc := 0) (k0 := 0) E dX11_at_0 rfl rfl ?_
  refine gX_0 (pc := 1) (i := 0) E rfl wd_1_16 dX11_at_1 ?_
  refine z_iload_n (pc := 4) (k0 := 1) E dX11_at_4 rfl rfl ?_
  obtain ⟨r1, h2, hf⟩ := kC_e hf
  refine z_callV0 (pc := 5) (is := [1]) (n := 1) (As := [.int a1]) (st := []) (st' := [.int r1]) (C2 := [wX aX (aN 200) (aK 200) (aT 200) (aR 200) (aV 6) gG gY gZ ct SX, wH aN ct SN, wH aK ct SK, wT aT (aH 200) ct ST, wH aH ct SH, wR aR ct SR, wV aV ct SV, wA gG 21 ct SG, wA gY 5 ct SY, wA gZ 5 ct SZ, wDp gG SD, wDh ct SE]) E (c_X1_has (l := l) (G := G) (ct := ct) (aH := aN) h2) wv_X1_has wd_10_15 ⟨Nat.le_of_ble_eq_true rfl, Nat.le_of_ble_eq_true rfl, Nat.le_of_ble_eq_true rfl, Nat.le_of_ble_eq_true rfl⟩ rfl rfl rfl (by decide) rfl rfl (zrH (j := 0) rfl) rfl (Nat.le_of_ble_eq_true rfl) dX11_at_5 rfl rfl ?_
  refine z_if_ne (pc := 8) (tgt := 13) E dX11_at_8 (by decide) (fun c3 => ?_) (fun c3 => ?_)
  · have hf := kB_f hf c3
    refine z_iload_n (pc := 13) (k0 := 2) E dX11_at_13 rfl rfl ?_
    by_cases c4 : a2 = 0
    · have hf := kB_t hf c4
      refine z_tswIn (pc := 14) (tgt := 40) (v := 0) (n := 0) (off := 26) E dX11_at_14 c4 (by decide) (by decide) (by decide) (by decide) (by decide) ?_
      refine z_aload_n (pc := 40) (k0 := 0) E dX11_at_40 rfl rfl ?_
      refine gX_0 (pc := 41) (i := 0) E rfl wd_1_16 dX11_at_41 ?_
      refine gH_0 (pc := 44) (i := 1) E rfl wd_7_4 dX11_at_44 ?_
      refine z_iload_n (pc := 47) (k0 := 1) E dX11_at_47 rfl rfl ?_
      obtain ⟨c5, hf⟩ := kO_e hf
      refine lH_0 (pc := 48) (i := 1) E rfl c5 dX11_at_48 ?_
      cases hf
      exact z_iret E hr dX11_at_49
    have hf := kB_f hf c4
    by_cases c6 : a2 = 1
    · have hf := kB_t hf c6
      refine z_tswIn (pc := 14) (tgt := 50) (v := 1) (n := 1) (off := 36) E dX11_at_14 c6 (by decide) (by decide) (by decide) (by decide) (by decide) ?_
      refine z_aload_n (pc := 50) (k0 := 0) E dX11_at_50 rfl rfl ?_
      refine gX_0 (pc := 51) (i := 0) E rfl wd_1_16 dX11_at_51 ?_
      refine gH_1 (pc := 54) (i := 1) E rfl wd_7_5 dX11_at_54 ?_
      refine z_iload_n (pc := 57) (k0 := 1) E dX11_at_57 rfl rfl ?_
      obtain ⟨c7, hf⟩ := kO_e hf
      refine lH_1 (pc := 58) (i := 1) E rfl c7 dX11_at_58 ?_
      cases hf
      exact z_iret E hr dX11_at_59
    have hf := kB_f hf c6
    by_cases c8 : a2 = 2
    · have hf := kB_t hf c8
      refine z_tswIn (pc := 14) (tgt := 60) (v := 2) (n := 2) (off := 46) E dX11_at_14 c8 (by decide) (by decide) (by decide) (by decide) (by decide) ?_
      refine z_aload_n (pc := 60) (k0 := 0) E dX11_at_60 rfl rfl ?_
      refine gX_0 (pc := 61) (i := 0) E rfl wd_1_16 dX11_at_61 ?_
      refine gH_2 (pc := 64) (i := 1) E rfl wd_7_6 dX11_at_64 ?_
      refine z_iload_n (pc := 67) (k0 := 1) E dX11_at_67 rfl rfl ?_
      obtain ⟨c9, hf⟩ := kO_e hf
      refine lH_2 (pc := 68) (i := 1) E rfl c9 dX11_at_68 ?_
      cases hf
      exact z_iret E hr dX11_at_69
    have hf := kB_f hf c8
    refine z_tswOut (pc := 14) (tgt := 70) E dX11_at_14 (by have n_c4 := lv_neT c4 (a := 0) (by decide); have n_c6 := lv_neT c6 (a := 1) (by decide); have n_c8 := lv_neT c8 (a := 2) (by decide); omega) (by decide) ?_
    refine z_iconst (pc := 70) (v := (-1)) E dX11_at_70 (by decide) ?_
    cases hf
    exact z_iret E hr dX11_at_71
  · have hf := kB_t hf c3
    refine z_iconst (pc := 11) (v := (-1)) E dX11_at_11 (by decide) ?_
    cases hf
    exact z_iret E hr dX11_at_12
noncomputable def f_X11_of (N : Nat) (SX : zRS) (SN : zHS) (SK : zHS) (ST : zTS) (SH : zHS) (SR : zRS) (SV : (Nat → Nat → Int64)) (SG : (Nat → Int32)) (SY : (Nat → Int32)) (SZ : (Nat → Int32)) (SD : (List (Nat × zPS))) (SE : (List ((Nat → Nat) × zQS))) (a1 : Int32) (a2 : Int32) : Option (Int32 × ((List ((Nat → Nat) × zQS)))) := kC (f_X1_person SN a1) (fun r1 => kN r1 (some ((-1), SE)) (fun w3 => kB (a2 < 0) (some ((-1), SE)) (kB (a2 < 40) (kB (a2 = 0) (kC (plook SD w3) (fun pv42 => some ((pv42.1), SE))) (kB (a2 = 1) (kC (plook SD w3) (fun pv37 => some ((pv37.2.2), SE))) (kL (a2 - a2 / 10 * 10) (fun v9 => kB (a2 < 10) (some ((-1), SE)) (kC (f_X1_has SN v9) (fun r11 => kB (r11 = 0) (some ((-1), SE)) (kB (20 ≤ a2) (kB (30 ≤ a2) (kD (f_X1_moved N SN SD SE (some w3) v9 0) (fun r16 S_17 => some (r16, S_17))) (kD (f_X1_moved N SN SD SE (some w3) v9 1) (fun r19 S_20 => some (r19, S_20)))) (kC (plook SD w3) (fun pv22 => kC (f_v_grants pv22 SN v9) (fun r27 => kB (r27 = 0) (some (0, SE)) (some (1, SE)))))))))))) (some ((-1), SE)))))
theorem wv_X11_of : zWV RX11 yX11_of cX11_of 5 (some .int) 2 := ⟨wd_11_5, wd_11_6, wd_1_2, wd_11_7, by decide +kernel⟩
def rm_X11_of : Room := { frames := 4, cells := 0, slots := 0, locals := 87 }
set_option maxHeartbeats 4000000 in
set_option maxRecDepth 100000 in
theorem c_X11_of {l : Launch} {G : va_G} {ct : Nat → ClassId} {aX : Nat → Nat} {aN : Nat → Nat} {aK : Nat → Nat} {aT : Nat → Nat} {aH : Nat → Nat} {aR : Nat → Nat} {aV : Nat → Nat} {gG : Nat} {gY : Nat} {gZ : Nat} {N : Nat} {SX : zRS} {SN : zHS} {SK : zHS} {ST : zTS} {SH : zHS} {SR : zRS} {SV : (Nat → Nat → Int64)} {SG : (Nat → Int32)} {SY : (Nat → Int32)} {SZ : (Nat → Int32)} {SD : (List (Nat × zPS))} {SE : (List ((Nat → Nat) × zQS))} {a1 : Int32} {a2 : Int32} {r0 : Int32} {OE : (List ((Nat → Nat) × zQS))} (hf : f_X11_of N SX SN SK ST SH SR SV SG SY SZ SD SE a1 a2 = some (r0, OE)) : zC l yX11_of cX11_of 5 (some .int) rm_X11_of G ct [.ref (aX 200), .int a1, .int a2] [wX aX (aN 200) (aK 200) (aT 200) (aR 200) (aV 6) gG gY gZ ct SX, wH aN ct SN, wH aK ct SK, wT aT (aH 200) ct ST, wH aH ct SH, wR aR ct SR, wV aV ct SV, wA gG 21 ct SG, wA gY 5 ct SY, wA gZ 5 ct SZ, wDp gG SD, wDh ct SE] [wX aX (aN 200) (aK 200) (aT 200) (aR 200) (aV 6) gG gY gZ ct SX, wH aN ct SN, wH aK ct SK, wT aT (aH 200) ct ST, wH aH ct SH, wR aR ct SR, wV aV ct SV, wA gG 21 ct SG, wA gY 5 ct SY, wA gZ 5 ct SZ, wDp gG SD, wDh ct OE] (some (.int r0)) 0 0 := by
  refine z_enter (own := RX11) (lv := [(0, .ref (aX 200)), (1, .int a1), (2, .int a2)]) (by decide) rfl (Nat.le_of_ble_eq_true rfl) rfl ?_
  intro p e s m args below meth c A E hr hnm
  unfold f_X11_of at hf
  refine z_aload_n (pc := 0) (k0 := 0) E dX11_of_0 rfl rfl ?_
  refine gX_0 (pc := 1) (i := 0) E rfl wd_1_16 dX11_of_1 ?_
  refine z_iload_n (pc := 4) (k0 := 1) E dX11_of_4 rfl rfl ?_
  obtain ⟨r1, h2, hf⟩ := kC_e hf
  refine z_callV0 (pc := 5) (is := [1]) (n := 1) (As := [.int a1]) (st := []) (st' := [va_rf r1]) (C2 := [wX aX (aN 200) (aK 200) (aT 200) (aR 200) (aV 6) gG gY gZ ct SX, wH aN ct SN, wH aK ct SK, wT aT (aH 200) ct ST, wH aH ct SH, wR aR ct SR, wV aV ct SV, wA gG 21 ct SG, wA gY 5 ct SY, wA gZ 5 ct SZ, wDp gG SD, wDh ct SE]) E (c_X1_person (l := l) (G := G) (ct := ct) (aH := aN) h2) wv_X1_person wd_11_10 ⟨Nat.le_of_ble_eq_true rfl, Nat.le_of_ble_eq_true rfl, Nat.le_of_ble_eq_true rfl, Nat.le_of_ble_eq_true rfl⟩ rfl rfl rfl (by decide) rfl rfl (zrH (j := 0) rfl) rfl (Nat.le_of_ble_eq_true rfl) dX11_of_5 rfl rfl ?_
  refine z_qstore_n (pc := 8) (lv' := [(3, va_rf r1), (0, .ref (aX 200)), (1, .int a1), (2, .int a2)]) E dX11_of_8 rfl (by decide) rfl ?_
  refine z_qload_n (pc := 9) (k0 := 0) E dX11_of_9 rfl rfl ?_
  refine z_ifnull (pc := 10) (tgt := 23) E dX11_of_10 (by decide) (fun e4 => ?_) (fun w3 e4 => ?_)
  · have hf := kN_n hf e4
    refine z_iconst (pc := 23) (v := (-1)) E dX11_of_23 (by decide) ?_
    cases hf
    exact z_iret E hr dX11_of_24
  · have hf := kN_s hf e4
    have hf_e4 := hf
    subst e4
    have hf := hf_e4
    refine z_iload_n (pc := 13) (k0 := 3) E dX11_of_13 rfl rfl ?_
    refine z_if_lt (pc := 14) (tgt := 23) E dX11_of_14 (by decide) (fun c5 => ?_) (fun c5 => ?_)
    · have hf := kB_t hf c5
      refine z_iconst (pc := 23) (v := (-1)) E dX11_of_23 (by decide) ?_
      cases hf
      exact z_iret E hr dX11_of_24
    · have hf := kB_f hf c5
      refine z_iload_n (pc := 17) (k0 := 3) E dX11_of_17 rfl rfl ?_
      refine z_bipush (pc := 18) (v := 40) E dX11_of_18 (by decide) ?_
      refine z_icmp_lt (pc := 20) (tgt := 25) E dX11_of_20 (by decide) (fun c6 => ?_) (fun c6 => ?_)
      · have hf := kB_t hf c6
        refine z_iload_n (pc := 25) (k0 := 3) E dX11_of_25 rfl rfl ?_
        refine z_if_ne (pc := 26) (tgt := 34) E dX11_of_26 (by decide) (fun c7 => ?_) (fun c7 => ?_)
        · have hf := kB_f hf c7
          refine z_iload_n (pc := 34) (k0 := 3) E dX11_of_34 rfl rfl ?_
          refine z_iconst (pc := 35) (v := 1) E dX11_of_35 (by decide) ?_
          refine z_icmp_ne (pc := 36) (tgt := 44) E dX11_of_36 (by decide) (fun c8 => ?_) (fun c8 => ?_)
          · have hf := kB_f hf c8
            refine z_iload_n (pc := 44) (k0 := 3) E dX11_of_44 rfl rfl ?_
            refine z_bipush (pc := 45) (v := 10) E dX11_of_45 (by decide) ?_
            obtain ⟨v9, e_v9, hf⟩ := kL_e hf
            refine z_irem (pc := 47) (v := v9) E dX11_of_47 (by decide) e_v9 ?_
            refine z_istore (pc := 48) (lv' := [(4, .int v9), (3, .ref w3), (0, .ref (aX 200)), (1, .int a1), (2, .int a2)]) E dX11_of_48 (by decide) rfl ?_
            refine z_iload_n (pc := 50) (k0 := 4) E dX11_of_50 rfl rfl ?_
            refine z_bipush (pc := 51) (v := 10) E dX11_of_51 (by decide) ?_
            refine z_icmp_lt (pc := 53) (tgt := 68) E dX11_of_53 (by decide) (fun c10 => ?_) (fun c10 => ?_)
            · have hf := kB_t hf c10
              refine z_iconst (pc := 68) (v := (-1)) E dX11_of_68 (by decide) ?_
              cases hf
              exact z_iret E hr dX11_of_69
            · have hf := kB_f hf c10
              refine z_aload_n (pc := 56) (k0 := 2) E dX11_of_56 rfl rfl ?_
              refine gX_0 (pc := 57) (i := 0) E rfl wd_1_16 dX11_of_57 ?_
              refine z_iload (pc := 60) (k0 := 0) E dX11_of_60 rfl ?_
              obtain ⟨r11, h12, hf⟩ := kC_e hf
              refine z_callV0 (pc := 62) (is := [1]) (n := 1) (As := [.int v9]) (st := []) (st' := [.int r11]) (C2 := [wX aX (aN 200) (aK 200) (aT 200) (aR 200) (aV 6) gG gY gZ ct SX, wH aN ct SN, wH aK ct SK, wT aT (aH 200) ct ST, wH aH ct SH, wR aR ct SR, wV aV ct SV, wA gG 21 ct SG, wA gY 5 ct SY, wA gZ 5 ct SZ, wDp gG SD, wDh ct SE]) E (c_X1_has (l := l) (G := G) (ct := ct) (aH := aN) h12) wv_X1_has wd_10_15 ⟨Nat.le_of_ble_eq_true rfl, Nat.le_of_ble_eq_true rfl, Nat.le_of_ble_eq_true rfl, Nat.le_of_ble_eq_true rfl⟩ rfl rfl rfl (by decide) rfl rfl (zrH (j := 0) rfl) rfl (Nat.le_of_ble_eq_true rfl) dX11_of_62 rfl rfl ?_
              refine z_if_ne (pc := 65) (tgt := 70) E dX11_of_65 (by decide) (fun c13 => ?_) (fun c13 => ?_)
              · have hf := kB_f hf c13
                refine z_iload_n (pc := 70) (k0 := 4) E dX11_of_70 rfl rfl ?_
                refine z_bipush (pc := 71) (v := 20) E dX11_of_71 (by decide) ?_
                refine z_icmp_ge (pc := 73) (tgt := 95) E dX11_of_73 (by decide) (fun c14 => ?_) (fun c14 => ?_)
                · have hf := kB_t hf c14
                  refine z_aload_n (pc := 95) (k0 := 2) E dX11_of_95 rfl rfl ?_
                  refine gX_0 (pc := 96) (i := 0) E rfl wd_1_16 dX11_of_96 ?_
                  refine z_aload_n (pc := 99) (k0 := 1) E dX11_of_99 rfl rfl ?_
                  refine z_iload (pc := 100) (k0 := 0) E dX11_of_100 rfl ?_
                  refine z_iload_n (pc := 102) (k0 := 4) E dX11_of_102 rfl rfl ?_
                  refine z_bipush (pc := 103) (v := 30) E dX11_of_103 (by decide) ?_
                  refine z_icmp_ge (pc := 105) (tgt := 112) E dX11_of_105 (by decide) (fun c15 => ?_) (fun c15 => ?_)
                  · have hf := kB_t hf c15
                    refine z_iconst (pc := 112) (v := 0) E dX11_of_112 (by decide) ?_
                    obtain ⟨r16, S_17, h18, hf⟩ := kD_e hf
                    refine z_callV0 (pc := 113) (is := [1, 10, 11]) (n := 3) (As := [.ref w3, .int v9, .int 0]) (st := []) (st' := [.int r16]) (C2 := [wX aX (aN 200) (aK 200) (aT 200) (aR 200) (aV 6) gG gY gZ ct SX, wH aN ct SN, wH aK ct SK, wT aT (aH 200) ct ST, wH aH ct SH, wR aR ct SR, wV aV ct SV, wA gG 21 ct SG, wA gY 5 ct SY, wA gZ 5 ct SZ, wDp gG SD, wDh ct S_17]) E (c_X1_moved (l := l) (G := G) (ct := ct) (aH := aN) (gG := gG) h18) wv_X1_moved wd_14_3 ⟨Nat.le_of_ble_eq_true rfl, Nat.le_of_ble_eq_true rfl, Nat.le_of_ble_eq_true rfl, Nat.le_of_ble_eq_true rfl⟩ rfl rfl rfl (by decide) rfl rfl (zrH (j := 0) rfl) rfl (Nat.le_of_ble_eq_true rfl) dX11_of_113 rfl rfl ?_
                    cases hf
                    exact z_iret E hr dX11_of_116
                  · have hf := kB_f hf c15
                    refine z_iconst (pc := 108) (v := 1) E dX11_of_108 (by decide) ?_
                    refine z_goto (pc := 109) (tgt := 113) E dX11_of_109 (by decide) ?_
                    obtain ⟨r19, S_20, h21, hf⟩ := kD_e hf
                    refine z_callV0 (pc := 113) (is := [1, 10, 11]) (n := 3) (As := [.ref w3, .int v9, .int 1]) (st := []) (st' := [.int r19]) (C2 := [wX aX (aN 200) (aK 200) (aT 200) (aR 200) (aV 6) gG gY gZ ct SX, wH aN ct SN, wH aK ct SK, wT aT (aH 200) ct ST, wH aH ct SH, wR aR ct SR, wV aV ct SV, wA gG 21 ct SG, wA gY 5 ct SY, wA gZ 5 ct SZ, wDp gG SD, wDh ct S_20]) E (c_X1_moved (l := l) (G := G) (ct := ct) (aH := aN) (gG := gG) h21) wv_X1_moved wd_14_3 ⟨Nat.le_of_ble_eq_true rfl, Nat.le_of_ble_eq_true rfl, Nat.le_of_ble_eq_true rfl, Nat.le_of_ble_eq_true rfl⟩ rfl rfl rfl (by decide) rfl rfl (zrH (j := 0) rfl) rfl (Nat.le_of_ble_eq_true rfl) dX11_of_113 rfl rfl ?_
                    cases hf
                    exact z_iret E hr dX11_of_116
                · have hf := kB_f hf c14
                  refine z_aload_n (pc := 76) (k0 := 1) E dX11_of_76 rfl rfl ?_
                  refine z_aload_n (pc := 77) (k0 := 2) E dX11_of_77 rfl rfl ?_
                  refine gX_0 (pc := 78) (i := 0) E rfl wd_1_16 dX11_of_78 ?_
                  refine z_iload (pc := 81) (k0 := 0) E dX11_of_81 rfl ?_
                  obtain ⟨pv22, hp23, hf⟩ := kC_e hf
                  obtain ⟨DA24, DB25, eD26⟩ := wDp_at (g := gG) hp23
                  obtain ⟨r27, h28, hf⟩ := kC_e hf
                  refine z_world (Cs' := [wX aX (aN 200) (aK 200) (aT 200) (aR 200) (aV 6) gG gY gZ ct SX, wH aN ct SN, wH aK ct SK, wT aT (aH 200) ct ST, wH aH ct SH, wR aR ct SR, wV aV ct SV, wA gG 21 ct SG, wA gY 5 ct SY, wA gZ 5 ct SZ, DA24, wPa gG w3 pv22, DB25, wDh ct SE]) (by rw [eD26]; simp [zfl]) ?_
                  have K29 : zJ p l e rm_X11_of s m args below meth c (zQ G ct (some (.int r0)) [wX aX (aN 200) (aK 200) (aT 200) (aR 200) (aV 6) gG gY gZ ct SX, wH aN ct SN, wH aK ct SK, wT aT (aH 200) ct ST, wH aH ct SH, wR aR ct SR, wV aV ct SV, wA gG 21 ct SG, wA gY 5 ct SY, wA gZ 5 ct SZ, wDp gG SD, wDh ct OE] A below args s 0 0) A G 5 0 0 [wX aX (aN 200) (aK 200) (aT 200) (aR 200) (aV 6) gG gY gZ ct SX, wH aN ct SN, wH aK ct SK, wT aT (aH 200) ct ST, wH aH ct SH, wR aR ct SR, wV aV ct SV, wA gG 21 ct SG, wA gY 5 ct SY, wA gZ 5 ct SZ, wDp gG SD, wDh ct SE] [(4, .int v9), (3, .ref w3), (0, .ref (aX 200)), (1, .int a1), (2, .int a2)] 86 [.int r27] := by
                    refine z_if_eq (pc := 86) (tgt := 93) E dX11_of_86 (by decide) (fun c30 => ?_) (fun c30 => ?_)
                    · have hf := kB_t hf c30
                      refine z_iconst (pc := 93) (v := 0) E dX11_of_93 (by decide) ?_
                      cases hf
                      exact z_iret E hr dX11_of_94
                    · have hf := kB_f hf c30
                      refine z_iconst (pc := 89) (v := 1) E dX11_of_89 (by decide) ?_
                      refine z_goto (pc := 90) (tgt := 94) E dX11_of_90 (by decide) ?_
                      cases hf
                      exact z_iret E hr dX11_of_94
                  by_cases k31 : pv22.1 = 1
                  · have h28 := f_v_grants_1 k31 h28
                    refine z_callO (x := ⟨"MoreStory$Parent", "grants", "(LMoreStory$Home;I)Z"⟩) (owner := "MoreStory$Parent") (pc := 83) (is := [11, 1]) (n := 2) (As := [.ref (aN 200), .int v9]) (st := []) (st' := [.int r27]) (C2 := [wX aX (aN 200) (aK 200) (aT 200) (aR 200) (aV 6) gG gY gZ ct SX, wH aN ct SN, wH aK ct SK, wT aT (aH 200) ct ST, wH aH ct SH, wR aR ct SR, wV aV ct SV, wA gG 21 ct SG, wA gY 5 ct SY, wA gZ 5 ct SZ, DA24, wPa gG w3 pv22, DB25, wDh ct SE]) E (c_X6_grants (l := l) (G := G) (ct := ct) (gG := gG) (aP := w3) (aH := aN) h28) wd_11_15 wd_11_16 wd_11_17 wd_13_8 wd_13_0 wd_8_4 wd_13_1 wd_12_11 ⟨by decide, by decide, by decide +kernel⟩ ⟨Nat.le_of_ble_eq_true rfl, Nat.le_of_ble_eq_true rfl, Nat.le_of_ble_eq_true rfl, Nat.le_of_ble_eq_true rfl⟩ rfl rfl rfl (by decide) rfl rfl (zrP6 k31 (j := 0) rfl) rfl (Nat.le_of_ble_eq_true rfl) dX11_of_83 rfl rfl ?_
                    refine z_world (Cs' := [wX aX (aN 200) (aK 200) (aT 200) (aR 200) (aV 6) gG gY gZ ct SX, wH aN ct SN, wH aK ct SK, wT aT (aH 200) ct ST, wH aH ct SH, wR aR ct SR, wV aV ct SV, wA gG 21 ct SG, wA gY 5 ct SY, wA gZ 5 ct SZ, wDp gG SD, wDh ct SE]) (by rw [eD26]; simp [zfl]) ?_
                    exact K29
                  by_cases k32 : pv22.1 = 2
                  · have h28 := f_v_grants_2 k32 h28
                    refine z_callO (x := ⟨"MoreStory$Parent", "grants", "(LMoreStory$Home;I)Z"⟩) (owner := "MoreStory$Parent") (pc := 83) (is := [11, 1]) (n := 2) (As := [.ref (aN 200), .int v9]) (st := []) (st' := [.int r27]) (C2 := [wX aX (aN 200) (aK 200) (aT 200) (aR 200) (aV 6) gG gY gZ ct SX, wH aN ct SN, wH aK ct SK, wT aT (aH 200) ct ST, wH aH ct SH, wR aR ct SR, wV aV ct SV, wA gG 21 ct SG, wA gY 5 ct SY, wA gZ 5 ct SZ, DA24, wPa gG w3 pv22, DB25, wDh ct SE]) E (c_X7_grants (l := l) (G := G) (ct := ct) (gG := gG) (aP := w3) (aH := aN) h28) wd_11_15 wd_11_16 wd_11_17 wd_13_9 wd_12_3 wd_8_7 wd_12_4 wd_12_11 ⟨by decide, by decide, by decide +kernel⟩ ⟨Nat.le_of_ble_eq_true rfl, Nat.le_of_ble_eq_true rfl, Nat.le_of_ble_eq_true rfl, Nat.le_of_ble_eq_true rfl⟩ rfl rfl rfl (by decide) rfl rfl (zrP7 k32 (j := 0) rfl) rfl (Nat.le_of_ble_eq_true rfl) dX11_of_83 rfl rfl ?_
                    refine z_world (Cs' := [wX aX (aN 200) (aK 200) (aT 200) (aR 200) (aV 6) gG gY gZ ct SX, wH aN ct SN, wH aK ct SK, wT aT (aH 200) ct ST, wH aH ct SH, wR aR ct SR, wV aV ct SV, wA gG 21 ct SG, wA gY 5 ct SY, wA gZ 5 ct SZ, wDp gG SD, wDh ct SE]) (by rw [eD26]; simp [zfl]) ?_
                    exact K29
                  by_cases k33 : pv22.1 = 3
                  · have h28 := f_v_grants_3 k33 h28
                    refine z_callO (x := ⟨"MoreStory$Parent", "grants", "(LMoreStory$Home;I)Z"⟩) (owner := "MoreStory$Parent") (pc := 83) (is := [11, 1]) (n := 2) (As := [.ref (aN 200), .int v9]) (st := []) (st' := [.int r27]) (C2 := [wX aX (aN 200) (aK 200) (aT 200) (aR 200) (aV 6) gG gY gZ ct SX, wH aN ct SN, wH aK ct SK, wT aT (aH 200) ct ST, wH aH ct SH, wR aR ct SR, wV aV ct SV, wA gG 21 ct SG, wA gY 5 ct SY, wA gZ 5 ct SZ, DA24, wPa gG w3 pv22, DB25, wDh ct SE]) E (c_X8_grants (l := l) (G := G) (ct := ct) (gG := gG) (aP := w3) (aH := aN) h28) wd_11_15 wd_11_16 wd_11_17 wd_13_10 wd_13_11 wd_8_10 wd_13_12 wd_12_11 ⟨by decide, by decide, by decide +kernel⟩ ⟨Nat.le_of_ble_eq_true rfl, Nat.le_of_ble_eq_true rfl, Nat.le_of_ble_eq_true rfl, Nat.le_of_ble_eq_true rfl⟩ rfl rfl rfl (by decide) rfl rfl (zrP8 k33 (j := 0) rfl) rfl (Nat.le_of_ble_eq_true rfl) dX11_of_83 rfl rfl ?_
                    refine z_world (Cs' := [wX aX (aN 200) (aK 200) (aT 200) (aR 200) (aV 6) gG gY gZ ct SX, wH aN ct SN, wH aK ct SK, wT aT (aH 200) ct ST, wH aH ct SH, wR aR ct SR, wV aV ct SV, wA gG 21 ct SG, wA gY 5 ct SY, wA gZ 5 ct SZ, wDp gG SD, wDh ct SE]) (by rw [eD26]; simp [zfl]) ?_
                    exact K29
                  by_cases k34 : pv22.1 = 4
                  · have h28 := f_v_grants_4 k34 h28
                    refine z_callO (x := ⟨"MoreStory$Parent", "grants", "(LMoreStory$Home;I)Z"⟩) (owner := "MoreStory$Parent") (pc := 83) (is := [11, 1]) (n := 2) (As := [.ref (aN 200), .int v9]) (st := []) (st' := [.int r27]) (C2 := [wX aX (aN 200) (aK 200) (aT 200) (aR 200) (aV 6) gG gY gZ ct SX, wH aN ct SN, wH aK ct SK, wT aT (aH 200) ct ST, wH aH ct SH, wR aR ct SR, wV aV ct SV, wA gG 21 ct SG, wA gY 5 ct SY, wA gZ 5 ct SZ, DA24, wPa gG w3 pv22, DB25, wDh ct SE]) E (c_X3_grants (l := l) (G := G) (ct := ct) (gG := gG) (aP := w3) (aH := aN) h28) wd_11_15 wd_11_16 wd_11_17 wd_12_17 wd_12_18 wd_8_13 wd_12_19 wd_12_11 ⟨by decide, by decide, by decide +kernel⟩ ⟨Nat.le_of_ble_eq_true rfl, Nat.le_of_ble_eq_true rfl, Nat.le_of_ble_eq_true rfl, Nat.le_of_ble_eq_true rfl⟩ rfl rfl rfl (by decide) rfl rfl (zrP3 k34 (j := 0) rfl) rfl (Nat.le_of_ble_eq_true rfl) dX11_of_83 rfl rfl ?_
                    refine z_world (Cs' := [wX aX (aN 200) (aK 200) (aT 200) (aR 200) (aV 6) gG gY gZ ct SX, wH aN ct SN, wH aK ct SK, wT aT (aH 200) ct ST, wH aH ct SH, wR aR ct SR, wV aV ct SV, wA gG 21 ct SG, wA gY 5 ct SY, wA gZ 5 ct SZ, wDp gG SD, wDh ct SE]) (by rw [eD26]; simp [zfl]) ?_
                    exact K29
                  by_cases k35 : pv22.1 = 5
                  · have h28 := f_v_grants_5 k35 h28
                    refine z_callO (x := ⟨"MoreStory$Parent", "grants", "(LMoreStory$Home;I)Z"⟩) (owner := "MoreStory$Parent") (pc := 83) (is := [11, 1]) (n := 2) (As := [.ref (aN 200), .int v9]) (st := []) (st' := [.int r27]) (C2 := [wX aX (aN 200) (aK 200) (aT 200) (aR 200) (aV 6) gG gY gZ ct SX, wH aN ct SN, wH aK ct SK, wT aT (aH 200) ct ST, wH aH ct SH, wR aR ct SR, wV aV ct SV, wA gG 21 ct SG, wA gY 5 ct SY, wA gZ 5 ct SZ, DA24, wPa gG w3 pv22, DB25, wDh ct SE]) E (c_X0_grants (l := l) (G := G) (ct := ct) (gG := gG) (aP := w3) (aH := aN) h28) wd_11_15 wd_11_16 wd_11_17 wd_11_18 wd_11_19 wd_8_16 wd_11_20 wd_12_11 ⟨by decide, by decide, by decide +kernel⟩ ⟨Nat.le_of_ble_eq_true rfl, Nat.le_of_ble_eq_true rfl, Nat.le_of_ble_eq_true rfl, Nat.le_of_ble_eq_true rfl⟩ rfl rfl rfl (by decide) rfl rfl (zrP0 k35 (j := 0) rfl) rfl (Nat.le_of_ble_eq_true rfl) dX11_of_83 rfl rfl ?_
                    refine z_world (Cs' := [wX aX (aN 200) (aK 200) (aT 200) (aR 200) (aV 6) gG gY gZ ct SX, wH aN ct SN, wH aK ct SK, wT aT (aH 200) ct ST, wH aH ct SH, wR aR ct SR, wV aV ct SV, wA gG 21 ct SG, wA gY 5 ct SY, wA gZ 5 ct SZ, wDp gG SD, wDh ct SE]) (by rw [eD26]; simp [zfl]) ?_
                    exact K29
                  by_cases k36 : pv22.1 = 6
                  · have h28 := f_v_grants_6 k36 h28
                    refine z_callO (x := ⟨"MoreStory$Parent", "grants", "(LMoreStory$Home;I)Z"⟩) (owner := "MoreStory$Parent") (pc := 83) (is := [11, 1]) (n := 2) (As := [.ref (aN 200), .int v9]) (st := []) (st' := [.int r27]) (C2 := [wX aX (aN 200) (aK 200) (aT 200) (aR 200) (aV 6) gG gY gZ ct SX, wH aN ct SN, wH aK ct SK, wT aT (aH 200) ct ST, wH aH ct SH, wR aR ct SR, wV aV ct SV, wA gG 21 ct SG, wA gY 5 ct SY, wA gZ 5 ct SZ, DA24, wPa gG w3 pv22, DB25, wDh ct SE]) E (c_X9_grants (l := l) (G := G) (ct := ct) (gG := gG) (aP := w3) (aH := aN) h28) wd_11_15 wd_11_16 wd_11_17 wd_13_17 wd_13_18 wd_8_19 wd_13_19 wd_12_11 ⟨by decide, by decide, by decide +kernel⟩ ⟨Nat.le_of_ble_eq_true rfl, Nat.le_of_ble_eq_true rfl, Nat.le_of_ble_eq_true rfl, Nat.le_of_ble_eq_true rfl⟩ rfl rfl rfl (by decide) rfl rfl (zrP9 k36 (j := 0) rfl) rfl (Nat.le_of_ble_eq_true rfl) dX11_of_83 rfl rfl ?_
                    refine z_world (Cs' := [wX aX (aN 200) (aK 200) (aT 200) (aR 200) (aV 6) gG gY gZ ct SX, wH aN ct SN, wH aK ct SK, wT aT (aH 200) ct ST, wH aH ct SH, wR aR ct SR, wV aV ct SV, wA gG 21 ct SG, wA gY 5 ct SY, wA gZ 5 ct SZ, wDp gG SD, wDh ct SE]) (by rw [eD26]; simp [zfl]) ?_
                    exact K29
                  have h28 := f_v_grants_e k31 k32 k33 k34 k35 k36 h28
                  refine z_callV0 (pc := 83) (is := [11, 1]) (n := 2) (As := [.ref (aN 200), .int v9]) (st := []) (st' := [.int r27]) (C2 := [wX aX (aN 200) (aK 200) (aT 200) (aR 200) (aV 6) gG gY gZ ct SX, wH aN ct SN, wH aK ct SK, wT aT (aH 200) ct ST, wH aH ct SH, wR aR ct SR, wV aV ct SV, wA gG 21 ct SG, wA gY 5 ct SY, wA gZ 5 ct SZ, DA24, wPa gG w3 pv22, DB25, wDh ct SE]) E (c_X4_grants (l := l) (G := G) (ct := ct) (gG := gG) (aP := w3) (aH := aN) h28) wv_X4_grants wd_13_6 ⟨Nat.le_of_ble_eq_true rfl, Nat.le_of_ble_eq_true rfl, Nat.le_of_ble_eq_true rfl, Nat.le_of_ble_eq_true rfl⟩ rfl rfl rfl (by decide) rfl rfl (zrP4 k31 k32 k33 k34 k35 k36 (j := 0) rfl) rfl (Nat.le_of_ble_eq_true rfl) dX11_of_83 rfl rfl ?_
                  refine z_world (Cs' := [wX aX (aN 200) (aK 200) (aT 200) (aR 200) (aV 6) gG gY gZ ct SX, wH aN ct SN, wH aK ct SK, wT aT (aH 200) ct ST, wH aH ct SH, wR aR ct SR, wV aV ct SV, wA gG 21 ct SG, wA gY 5 ct SY, wA gZ 5 ct SZ, wDp gG SD, wDh ct SE]) (by rw [eD26]; simp [zfl]) ?_
                  exact K29
              · have hf := kB_t hf c13
                refine z_iconst (pc := 68) (v := (-1)) E dX11_of_68 (by decide) ?_
                cases hf
                exact z_iret E hr dX11_of_69
          · have hf := kB_t hf c8
            refine z_aload_n (pc := 39) (k0 := 0) E dX11_of_39 rfl rfl ?_
            obtain ⟨pv37, hp38, hf⟩ := kC_e hf
            obtain ⟨DA39, DB40, eD41⟩ := wDp_at (g := gG) hp38
            refine z_world (Cs' := [wX aX (aN 200) (aK 200) (aT 200) (aR 200) (aV 6) gG gY gZ ct SX, wH aN ct SN, wH aK ct SK, wT aT (aH 200) ct ST, wH aH ct SH, wR aR ct SR, wV aV ct SV, wA gG 21 ct SG, wA gY 5 ct SY, wA gZ 5 ct SZ, DA39, wPa gG w3 pv37, DB40, wDh ct SE]) (by rw [eD41]; simp [zfl]) ?_
            refine gP_2 (pc := 40) (i := 11) E rfl wd_11_9 (fun _ h => h) dX11_of_40 ?_
            refine z_world (Cs' := [wX aX (aN 200) (aK 200) (aT 200) (aR 200) (aV 6) gG gY gZ ct SX, wH aN ct SN, wH aK ct SK, wT aT (aH 200) ct ST, wH aH ct SH, wR aR ct SR, wV aV ct SV, wA gG 21 ct SG, wA gY 5 ct SY, wA gZ 5 ct SZ, wDp gG SD, wDh ct SE]) (by rw [eD41]; simp [zfl]) ?_
            cases hf
            exact z_iret E hr dX11_of_43
        · have hf := kB_t hf c7
          refine z_aload_n (pc := 29) (k0 := 0) E dX11_of_29 rfl rfl ?_
          obtain ⟨pv42, hp43, hf⟩ := kC_e hf
          obtain ⟨DA44, DB45, eD46⟩ := wDp_at (g := gG) hp43
          refine z_world (Cs' := [wX aX (aN 200) (aK 200) (aT 200) (aR 200) (aV 6) gG gY gZ ct SX, wH aN ct SN, wH aK ct SK, wT aT (aH 200) ct ST, wH aH ct SH, wR aR ct SR, wV aV ct SV, wA gG 21 ct SG, wA gY 5 ct SY, wA gZ 5 ct SZ, DA44, wPa gG w3 pv42, DB45, wDh ct SE]) (by rw [eD46]; simp [zfl]) ?_
          refine gP_0 (pc := 30) (i := 11) E rfl wd_11_8 (fun _ h => h) dX11_of_30 ?_
          refine z_world (Cs' := [wX aX (aN 200) (aK 200) (aT 200) (aR 200) (aV 6) gG gY gZ ct SX, wH aN ct SN, wH aK ct SK, wT aT (aH 200) ct ST, wH aH ct SH, wR aR ct SR, wV aV ct SV, wA gG 21 ct SG, wA gY 5 ct SY, wA gZ 5 ct SZ, wDp gG SD, wDh ct SE]) (by rw [eD46]; simp [zfl]) ?_
          cases hf
          exact z_iret E hr dX11_of_33
      · have hf := kB_f hf c6
        refine z_iconst (pc := 23) (v := (-1)) E dX11_of_23 (by decide) ?_
        cases hf
        exact z_iret E hr dX11_of_24
noncomputable def f_X11_habit (SX : zRS) (SN : zHS) (SK : zHS) (ST : zTS) (SH : zHS) (SR : zRS) (SV : (Nat → Nat → Int64)) (SG : (Nat → Int32)) (SY : (Nat → Int32)) (SZ : (Nat → Int32)) (SD : (List (Nat × zPS))) (SE : (List ((Nat → Nat) × zQS))) (a1 : Int32) (a2 : Int32) : Option (Int32 × zHS) := kC (f_X1_has SN a1) (fun r1 => kB (r1 = 0) (some ((-1), SN)) (kB (a2 < 0) (some ((-2), SN)) (kB (a2 ≤ 999) (kO (¬ (a1 < 0 ∨ 7 ≤ Int32.toNatClampNeg a1)) (kO (¬ (a1 < 0 ∨ 7 ≤ Int32.toNatClampNeg a1)) (kL (hSA SN 2 (upd (SN.2.1 2) (Int32.toNatClampNeg a1) a2)) (fun SN_8 => some (((SN.2.1 2) (Int32.toNatClampNeg a1)), SN_8))))) (some ((-2), SN)))))
theorem wv_X11_habit : zWV RX11 yX11_habit cX11_habit 4 (some .int) 2 := ⟨wd_17_6, wd_17_7, wd_1_2, wd_17_8, by decide +kernel⟩
def rm_X11_habit : Room := { frames := 1, cells := 0, slots := 0, locals := 21 }
set_option maxHeartbeats 4000000 in
set_option maxRecDepth 100000 in
theorem c_X11_habit {l : Launch} {G : va_G} {ct : Nat → ClassId} {aX : Nat → Nat} {aN : Nat → Nat} {aK : Nat → Nat} {aT : Nat → Nat} {aH : Nat → Nat} {aR : Nat → Nat} {aV : Nat → Nat} {gG : Nat} {gY : Nat} {gZ : Nat} {SX : zRS} {SN : zHS} {SK : zHS} {ST : zTS} {SH : zHS} {SR : zRS} {SV : (Nat → Nat → Int64)} {SG : (Nat → Int32)} {SY : (Nat → Int32)} {SZ : (Nat → Int32)} {SD : (List (Nat × zPS))} {SE : (List ((Nat → Nat) × zQS))} {a1 : Int32} {a2 : Int32} {r0 : Int32} {ON : zHS} (hf : f_X11_habit SX SN SK ST SH SR SV SG SY SZ SD SE a1 a2 = some (r0, ON)) : zC l yX11_habit cX11_habit 4 (some .int) rm_X11_habit G ct [.ref (aX 200), .int a1, .int a2] [wX aX (aN 200) (aK 200) (aT 200) (aR 200) (aV 6) gG gY gZ ct SX, wH aN ct SN, wH aK ct SK, wT aT (aH 200) ct ST, wH aH ct SH, wR aR ct SR, wV aV ct SV, wA gG 21 ct SG, wA gY 5 ct SY, wA gZ 5 ct SZ, wDp gG SD, wDh ct SE] [wX aX (aN 200) (aK 200) (aT 200) (aR 200) (aV 6) gG gY gZ ct SX, wH aN ct ON, wH aK ct SK, wT aT (aH 200) ct ST, wH aH ct SH, wR aR ct SR, wV aV ct SV, wA gG 21 ct SG, wA gY 5 ct SY, wA gZ 5 ct SZ, wDp gG SD, wDh ct SE] (some (.int r0)) 0 0 := by
  refine z_enter (own := RX11) (lv := [(0, .ref (aX 200)), (1, .int a1), (2, .int a2)]) (by decide) rfl (Nat.le_of_ble_eq_true rfl) rfl ?_
  intro p e s m args below meth c A E hr hnm
  unfold f_X11_habit at hf
  refine z_aload_n (pc := 0) (k0 := 0) E dX11_habit_0 rfl rfl ?_
  refine gX_0 (pc := 1) (i := 0) E rfl wd_1_16 dX11_habit_1 ?_
  refine z_iload_n (pc := 4) (k0 := 1) E dX11_habit_4 rfl rfl ?_
  obtain ⟨r1, h2, hf⟩ := kC_e hf
  refine z_callV0 (pc := 5) (is := [1]) (n := 1) (As := [.int a1]) (st := []) (st' := [.int r1]) (C2 := [wX aX (aN 200) (aK 200) (aT 200) (aR 200) (aV 6) gG gY gZ ct SX, wH aN ct SN, wH aK ct SK, wT aT (aH 200) ct ST, wH aH ct SH, wR aR ct SR, wV aV ct SV, wA gG 21 ct SG, wA gY 5 ct SY, wA gZ 5 ct SZ, wDp gG SD, wDh ct SE]) E (c_X1_has (l := l) (G := G) (ct := ct) (aH := aN) h2) wv_X1_has wd_10_15 ⟨Nat.le_of_ble_eq_true rfl, Nat.le_of_ble_eq_true rfl, Nat.le_of_ble_eq_true rfl, Nat.le_of_ble_eq_true rfl⟩ rfl rfl rfl (by decide) rfl rfl (zrH (j := 0) rfl) rfl (Nat.le_of_ble_eq_true rfl) dX11_habit_5 rfl rfl ?_
  refine z_if_ne (pc := 8) (tgt := 13) E dX11_habit_8 (by decide) (fun c3 => ?_) (fun c3 => ?_)
  · have hf := kB_f hf c3
    refine z_iload_n (pc := 13) (k0 := 2) E dX11_habit_13 rfl rfl ?_
    refine z_if_lt (pc := 14) (tgt := 24) E dX11_habit_14 (by decide) (fun c4 => ?_) (fun c4 => ?_)
    · have hf := kB_t hf c4
      refine z_bipush (pc := 24) (v := (-2)) E dX11_habit_24 (by decide) ?_
      cases hf
      exact z_iret E hr dX11_habit_26
    · have hf := kB_f hf c4
      refine z_iload_n (pc := 17) (k0 := 2) E dX11_habit_17 rfl rfl ?_
      refine z_sipush (pc := 18) (v := 999) E dX11_habit_18 (by decide) ?_
      refine z_icmp_le (pc := 21) (tgt := 27) E dX11_habit_21 (by decide) (fun c5 => ?_) (fun c5 => ?_)
      · have hf := kB_t hf c5
        refine z_aload_n (pc := 27) (k0 := 0) E dX11_habit_27 rfl rfl ?_
        refine gX_0 (pc := 28) (i := 0) E rfl wd_1_16 dX11_habit_28 ?_
        refine gH_2 (pc := 31) (i := 1) E rfl wd_7_6 dX11_habit_31 ?_
        refine z_iload_n (pc := 34) (k0 := 1) E dX11_habit_34 rfl rfl ?_
        obtain ⟨c6, hf⟩ := kO_e hf
        refine lH_2 (pc := 35) (i := 1) E rfl c6 dX11_habit_35 ?_
        refine z_istore_n (pc := 36) (lv' := [(3, .int ((SN.2.1 2) (Int32.toNatClampNeg a1))), (0, .ref (aX 200)), (1, .int a1), (2, .int a2)]) E dX11_habit_36 rfl (by decide) rfl ?_
        refine z_aload_n (pc := 37) (k0 := 1) E dX11_habit_37 rfl rfl ?_
        refine gX_0 (pc := 38) (i := 0) E rfl wd_1_16 dX11_habit_38 ?_
        refine gH_2 (pc := 41) (i := 1) E rfl wd_7_6 dX11_habit_41 ?_
        refine z_iload_n (pc := 44) (k0 := 2) E dX11_habit_44 rfl rfl ?_
        refine z_iload_n (pc := 45) (k0 := 3) E dX11_habit_45 rfl rfl ?_
        obtain ⟨c7, hf⟩ := kO_e hf
        obtain ⟨SN_8, e_SN_8, hf⟩ := kL_e hf
        refine sH_2 (pc := 46) (i := 1) (S1 := SN_8) E rfl c7 e_SN_8 dX11_habit_46 ?_
        show zJ p l e rm_X11_habit s m args below meth c (zQ G ct (some (.int r0)) [wX aX (aN 200) (aK 200) (aT 200) (aR 200) (aV 6) gG gY gZ ct SX, wH aN ct ON, wH aK ct SK, wT aT (aH 200) ct ST, wH aH ct SH, wR aR ct SR, wV aV ct SV, wA gG 21 ct SG, wA gY 5 ct SY, wA gZ 5 ct SZ, wDp gG SD, wDh ct SE] A below args s 0 0) A G 4 0 0 [wX aX (aN 200) (aK 200) (aT 200) (aR 200) (aV 6) gG gY gZ ct SX, wH aN ct SN_8, wH aK ct SK, wT aT (aH 200) ct ST, wH aH ct SH, wR aR ct SR, wV aV ct SV, wA gG 21 ct SG, wA gY 5 ct SY, wA gZ 5 ct SZ, wDp gG SD, wDh ct SE] [(3, .int ((SN.2.1 2) (Int32.toNatClampNeg a1))), (0, .ref (aX 200)), (1, .int a1), (2, .int a2)] 47 []
        refine z_iload_n (pc := 47) (k0 := 0) E dX11_habit_47 rfl rfl ?_
        cases hf
        exact z_iret E hr dX11_habit_48
      · have hf := kB_f hf c5
        refine z_bipush (pc := 24) (v := (-2)) E dX11_habit_24 (by decide) ?_
        cases hf
        exact z_iret E hr dX11_habit_26
  · have hf := kB_t hf c3
    refine z_iconst (pc := 11) (v := (-1)) E dX11_habit_11 (by decide) ?_
    cases hf
    exact z_iret E hr dX11_habit_12
noncomputable def f_X11_row (SX : zRS) (SN : zHS) (SK : zHS) (ST : zTS) (SH : zHS) (SR : zRS) (SV : (Nat → Nat → Int64)) (SG : (Nat → Int32)) (SY : (Nat → Int32)) (SZ : (Nat → Int32)) (SD : (List (Nat × zPS))) (SE : (List ((Nat → Nat) × zQS))) (a1 : Int32) (a2 : Int32) (a3 : Int32) : Option (Int32 × zHS) := kC (f_X1_person SN a1) (fun r1 => kN r1 (some ((-1), SN)) (fun w3 => kB (a2 < 0) (some ((-1), SN)) (kB (a2 < 4) (kB (a3 < 0) (some ((-2), SN)) (kB (a3 ≤ 1) (kC (plook SD w3) (fun pv9 => kB ((pv9.1) = 6) (kL ((4 : Int32) * a1) (fun v15 => kL (v15 + a2) (fun v16 => kO (¬ (v16 < 0 ∨ 16 ≤ Int32.toNatClampNeg v16)) (kL ((4 : Int32) * a1) (fun v18 => kL (v18 + a2) (fun v19 => kO (¬ (v19 < 0 ∨ 16 ≤ Int32.toNatClampNeg v19)) (kL (hSA SN 4 (upd (SN.2.1 4) (Int32.toNatClampNeg v19) a3)) (fun SN_21 => some (((SN.2.1 4) (Int32.toNatClampNeg v16)), SN_21))))))))) (some ((-3), SN)))) (some ((-2), SN)))) (some ((-1), SN)))))
theorem wv_X11_row : zWV RX11 yX11_row cX11_row 6 (some .int) 3 := ⟨wd_17_14, wd_17_15, wd_1_2, wd_17_16, by decide +kernel⟩
def rm_X11_row : Room := { frames := 1, cells := 0, slots := 0, locals := 21 }
set_option maxHeartbeats 4000000 in
set_option maxRecDepth 100000 in
theorem c_X11_row {l : Launch} {G : va_G} {ct : Nat → ClassId} {aX : Nat → Nat} {aN : Nat → Nat} {aK : Nat → Nat} {aT : Nat → Nat} {aH : Nat → Nat} {aR : Nat → Nat} {aV : Nat → Nat} {gG : Nat} {gY : Nat} {gZ : Nat} {SX : zRS} {SN : zHS} {SK : zHS} {ST : zTS} {SH : zHS} {SR : zRS} {SV : (Nat → Nat → Int64)} {SG : (Nat → Int32)} {SY : (Nat → Int32)} {SZ : (Nat → Int32)} {SD : (List (Nat × zPS))} {SE : (List ((Nat → Nat) × zQS))} {a1 : Int32} {a2 : Int32} {a3 : Int32} {r0 : Int32} {ON : zHS} (hf : f_X11_row SX SN SK ST SH SR SV SG SY SZ SD SE a1 a2 a3 = some (r0, ON)) : zC l yX11_row cX11_row 6 (some .int) rm_X11_row G ct [.ref (aX 200), .int a1, .int a2, .int a3] [wX aX (aN 200) (aK 200) (aT 200) (aR 200) (aV 6) gG gY gZ ct SX, wH aN ct SN, wH aK ct SK, wT aT (aH 200) ct ST, wH aH ct SH, wR aR ct SR, wV aV ct SV, wA gG 21 ct SG, wA gY 5 ct SY, wA gZ 5 ct SZ, wDp gG SD, wDh ct SE] [wX aX (aN 200) (aK 200) (aT 200) (aR 200) (aV 6) gG gY gZ ct SX, wH aN ct ON, wH aK ct SK, wT aT (aH 200) ct ST, wH aH ct SH, wR aR ct SR, wV aV ct SV, wA gG 21 ct SG, wA gY 5 ct SY, wA gZ 5 ct SZ, wDp gG SD, wDh ct SE] (some (.int r0)) 0 0 := by
  refine z_enter (own := RX11) (lv := [(0, .ref (aX 200)), (1, .int a1), (2, .int a2), (3, .int a3)]) (by decide) rfl (Nat.le_of_ble_eq_true rfl) rfl ?_
  intro p e s m args below meth c A E hr hnm
  unfold f_X11_row at hf
  refine z_aload_n (pc := 0) (k0 := 0) E dX11_row_0 rfl rfl ?_
  refine gX_0 (pc := 1) (i := 0) E rfl wd_1_16 dX11_row_1 ?_
  refine z_iload_n (pc := 4) (k0 := 1) E dX11_row_4 rfl rfl ?_
  obtain ⟨r1, h2, hf⟩ := kC_e hf
  refine z_callV0 (pc := 5) (is := [1]) (n := 1) (As := [.int a1]) (st := []) (st' := [va_rf r1]) (C2 := [wX aX (aN 200) (aK 200) (aT 200) (aR 200) (aV 6) gG gY gZ ct SX, wH aN ct SN, wH aK ct SK, wT aT (aH 200) ct ST, wH aH ct SH, wR aR ct SR, wV aV ct SV, wA gG 21 ct SG, wA gY 5 ct SY, wA gZ 5 ct SZ, wDp gG SD, wDh ct SE]) E (c_X1_person (l := l) (G := G) (ct := ct) (aH := aN) h2) wv_X1_person wd_11_10 ⟨Nat.le_of_ble_eq_true rfl, Nat.le_of_ble_eq_true rfl, Nat.le_of_ble_eq_true rfl, Nat.le_of_ble_eq_true rfl⟩ rfl rfl rfl (by decide) rfl rfl (zrH (j := 0) rfl) rfl (Nat.le_of_ble_eq_true rfl) dX11_row_5 rfl rfl ?_
  refine z_qstore (pc := 8) (lv' := [(4, va_rf r1), (0, .ref (aX 200)), (1, .int a1), (2, .int a2), (3, .int a3)]) E dX11_row_8 (by decide) rfl ?_
  refine z_qload (pc := 10) (k0 := 0) E dX11_row_10 rfl ?_
  refine z_ifnull (pc := 12) (tgt := 24) E dX11_row_12 (by decide) (fun e4 => ?_) (fun w3 e4 => ?_)
  · have hf := kN_n hf e4
    refine z_iconst (pc := 24) (v := (-1)) E dX11_row_24 (by decide) ?_
    cases hf
    exact z_iret E hr dX11_row_25
  · have hf := kN_s hf e4
    have hf_e4 := hf
    subst e4
    have hf := hf_e4
    refine z_iload_n (pc := 15) (k0 := 3) E dX11_row_15 rfl rfl ?_
    refine z_if_lt (pc := 16) (tgt := 24) E dX11_row_16 (by decide) (fun c5 => ?_) (fun c5 => ?_)
    · have hf := kB_t hf c5
      refine z_iconst (pc := 24) (v := (-1)) E dX11_row_24 (by decide) ?_
      cases hf
      exact z_iret E hr dX11_row_25
    · have hf := kB_f hf c5
      refine z_iload_n (pc := 19) (k0 := 3) E dX11_row_19 rfl rfl ?_
      refine z_iconst (pc := 20) (v := 4) E dX11_row_20 (by decide) ?_
      refine z_icmp_lt (pc := 21) (tgt := 26) E dX11_row_21 (by decide) (fun c6 => ?_) (fun c6 => ?_)
      · have hf := kB_t hf c6
        refine z_iload_n (pc := 26) (k0 := 4) E dX11_row_26 rfl rfl ?_
        refine z_if_lt (pc := 27) (tgt := 35) E dX11_row_27 (by decide) (fun c7 => ?_) (fun c7 => ?_)
        · have hf := kB_t hf c7
          refine z_bipush (pc := 35) (v := (-2)) E dX11_row_35 (by decide) ?_
          cases hf
          exact z_iret E hr dX11_row_37
        · have hf := kB_f hf c7
          refine z_iload_n (pc := 30) (k0 := 4) E dX11_row_30 rfl rfl ?_
          refine z_iconst (pc := 31) (v := 1) E dX11_row_31 (by decide) ?_
          refine z_icmp_le (pc := 32) (tgt := 38) E dX11_row_32 (by decide) (fun c8 => ?_) (fun c8 => ?_)
          · have hf := kB_t hf c8
            refine z_aload (pc := 38) (k0 := 0) E dX11_row_38 rfl ?_
            obtain ⟨pv9, hp10, hf⟩ := kC_e hf
            obtain ⟨DA11, DB12, eD13⟩ := wDp_at (g := gG) hp10
            refine z_world (Cs' := [wX aX (aN 200) (aK 200) (aT 200) (aR 200) (aV 6) gG gY gZ ct SX, wH aN ct SN, wH aK ct SK, wT aT (aH 200) ct ST, wH aH ct SH, wR aR ct SR, wV aV ct SV, wA gG 21 ct SG, wA gY 5 ct SY, wA gZ 5 ct SZ, DA11, wPa gG w3 pv9, DB12, wDh ct SE]) (by rw [eD13]; simp [zfl]) ?_
            refine gP_0 (pc := 40) (i := 11) E rfl wd_11_8 (fun _ h => h) dX11_row_40 ?_
            refine z_world (Cs' := [wX aX (aN 200) (aK 200) (aT 200) (aR 200) (aV 6) gG gY gZ ct SX, wH aN ct SN, wH aK ct SK, wT aT (aH 200) ct ST, wH aH ct SH, wR aR ct SR, wV aV ct SV, wA gG 21 ct SG, wA gY 5 ct SY, wA gZ 5 ct SZ, wDp gG SD, wDh ct SE]) (by rw [eD13]; simp [zfl]) ?_
            refine z_bipush (pc := 43) (v := 6) E dX11_row_43 (by decide) ?_
            refine z_icmp_eq (pc := 45) (tgt := 51) E dX11_row_45 (by decide) (fun c14 => ?_) (fun c14 => ?_)
            · have hf := kB_t hf c14
              refine z_aload_n (pc := 51) (k0 := 1) E dX11_row_51 rfl rfl ?_
              refine gX_0 (pc := 52) (i := 0) E rfl wd_1_16 dX11_row_52 ?_
              refine gH_4 (pc := 55) (i := 1) E rfl wd_7_21 dX11_row_55 ?_
              refine z_iconst (pc := 58) (v := 4) E dX11_row_58 (by decide) ?_
              refine z_iload_n (pc := 59) (k0 := 2) E dX11_row_59 rfl rfl ?_
              obtain ⟨v15, e_v15, hf⟩ := kL_e hf
              refine z_imul (pc := 60) (v := v15) E dX11_row_60 e_v15 ?_
              refine z_iload_n (pc := 61) (k0 := 3) E dX11_row_61 rfl rfl ?_
              obtain ⟨v16, e_v16, hf⟩ := kL_e hf
              refine z_iadd (pc := 62) (v := v16) E dX11_row_62 e_v16 ?_
              obtain ⟨c17, hf⟩ := kO_e hf
              refine lH_4 (pc := 63) (i := 1) E rfl c17 dX11_row_63 ?_
              refine z_istore (pc := 64) (lv' := [(5, .int ((SN.2.1 4) (Int32.toNatClampNeg v16))), (4, .ref w3), (0, .ref (aX 200)), (1, .int a1), (2, .int a2), (3, .int a3)]) E dX11_row_64 (by decide) rfl ?_
              refine z_aload_n (pc := 66) (k0 := 2) E dX11_row_66 rfl rfl ?_
              refine gX_0 (pc := 67) (i := 0) E rfl wd_1_16 dX11_row_67 ?_
              refine gH_4 (pc := 70) (i := 1) E rfl wd_7_21 dX11_row_70 ?_
              refine z_iconst (pc := 73) (v := 4) E dX11_row_73 (by decide) ?_
              refine z_iload_n (pc := 74) (k0 := 3) E dX11_row_74 rfl rfl ?_
              obtain ⟨v18, e_v18, hf⟩ := kL_e hf
              refine z_imul (pc := 75) (v := v18) E dX11_row_75 e_v18 ?_
              refine z_iload_n (pc := 76) (k0 := 4) E dX11_row_76 rfl rfl ?_
              obtain ⟨v19, e_v19, hf⟩ := kL_e hf
              refine z_iadd (pc := 77) (v := v19) E dX11_row_77 e_v19 ?_
              refine z_iload_n (pc := 78) (k0 := 5) E dX11_row_78 rfl rfl ?_
              obtain ⟨c20, hf⟩ := kO_e hf
              obtain ⟨SN_21, e_SN_21, hf⟩ := kL_e hf
              refine sH_4 (pc := 79) (i := 1) (S1 := SN_21) E rfl c20 e_SN_21 dX11_row_79 ?_
              show zJ p l e rm_X11_row s m args below meth c (zQ G ct (some (.int r0)) [wX aX (aN 200) (aK 200) (aT 200) (aR 200) (aV 6) gG gY gZ ct SX, wH aN ct ON, wH aK ct SK, wT aT (aH 200) ct ST, wH aH ct SH, wR aR ct SR, wV aV ct SV, wA gG 21 ct SG, wA gY 5 ct SY, wA gZ 5 ct SZ, wDp gG SD, wDh ct SE] A below args s 0 0) A G 6 0 0 [wX aX (aN 200) (aK 200) (aT 200) (aR 200) (aV 6) gG gY gZ ct SX, wH aN ct SN_21, wH aK ct SK, wT aT (aH 200) ct ST, wH aH ct SH, wR aR ct SR, wV aV ct SV, wA gG 21 ct SG, wA gY 5 ct SY, wA gZ 5 ct SZ, wDp gG SD, wDh ct SE] [(5, .int ((SN.2.1 4) (Int32.toNatClampNeg v16))), (4, .ref w3), (0, .ref (aX 200)), (1, .int a1), (2, .int a2), (3, .int a3)] 80 []
              refine z_iload (pc := 80) (k0 := 0) E dX11_row_80 rfl ?_
              cases hf
              exact z_iret E hr dX11_row_82
            · have hf := kB_f hf c14
              refine z_bipush (pc := 48) (v := (-3)) E dX11_row_48 (by decide) ?_
              cases hf
              exact z_iret E hr dX11_row_50
          · have hf := kB_f hf c8
            refine z_bipush (pc := 35) (v := (-2)) E dX11_row_35 (by decide) ?_
            cases hf
            exact z_iret E hr dX11_row_37
      · have hf := kB_f hf c6
        refine z_iconst (pc := 24) (v := (-1)) E dX11_row_24 (by decide) ?_
        cases hf
        exact z_iret E hr dX11_row_25
noncomputable def f_X11_feed (SX : zRS) (SN : zHS) (SK : zHS) (ST : zTS) (SH : zHS) (SR : zRS) (SV : (Nat → Nat → Int64)) (SG : (Nat → Int32)) (SY : (Nat → Int32)) (SZ : (Nat → Int32)) (SD : (List (Nat × zPS))) (SE : (List ((Nat → Nat) × zQS))) (a1 : Int32) : Option (Int32 × zRS) := kB (a1 < 0) (some ((-2), SR)) (kB (a1 ≤ 127) (kB ((SR.1 5) < 100) (kL ((SR.1 5) + 1) (fun v4 => kL (rSI SR 5 v4) (fun SR_5 => kO (¬ ((SR.1 5) < 0 ∨ 100 ≤ Int32.toNatClampNeg (SR.1 5))) (kL (rSA SR_5 0 (upd (SR_5.2 0) (Int32.toNatClampNeg (SR.1 5)) a1)) (fun SR_7 => some ((SR_7.1 5), SR_7)))))) (some ((-4), SR))) (some ((-2), SR)))
theorem wv_X11_feed : zWV RX11 yX11_feed cX11_feed 2 (some .int) 1 := ⟨wd_17_22, wd_17_23, wd_1_2, wd_18_0, by decide +kernel⟩
def rm_X11_feed : Room := { frames := 0, cells := 0, slots := 0, locals := 0 }
set_option maxHeartbeats 4000000 in
set_option maxRecDepth 100000 in
theorem c_X11_feed {l : Launch} {G : va_G} {ct : Nat → ClassId} {aX : Nat → Nat} {aN : Nat → Nat} {aK : Nat → Nat} {aT : Nat → Nat} {aH : Nat → Nat} {aR : Nat → Nat} {aV : Nat → Nat} {gG : Nat} {gY : Nat} {gZ : Nat} {SX : zRS} {SN : zHS} {SK : zHS} {ST : zTS} {SH : zHS} {SR : zRS} {SV : (Nat → Nat → Int64)} {SG : (Nat → Int32)} {SY : (Nat → Int32)} {SZ : (Nat → Int32)} {SD : (List (Nat × zPS))} {SE : (List ((Nat → Nat) × zQS))} {a1 : Int32} {r0 : Int32} {OR : zRS} (hf : f_X11_feed SX SN SK ST SH SR SV SG SY SZ SD SE a1 = some (r0, OR)) : zC l yX11_feed cX11_feed 2 (some .int) rm_X11_feed G ct [.ref (aX 200), .int a1] [wX aX (aN 200) (aK 200) (aT 200) (aR 200) (aV 6) gG gY gZ ct SX, wH aN ct SN, wH aK ct SK, wT aT (aH 200) ct ST, wH aH ct SH, wR aR ct SR, wV aV ct SV, wA gG 21 ct SG, wA gY 5 ct SY, wA gZ 5 ct SZ, wDp gG SD, wDh ct SE] [wX aX (aN 200) (aK 200) (aT 200) (aR 200) (aV 6) gG gY gZ ct SX, wH aN ct SN, wH aK ct SK, wT aT (aH 200) ct ST, wH aH ct SH, wR aR ct OR, wV aV ct SV, wA gG 21 ct SG, wA gY 5 ct SY, wA gZ 5 ct SZ, wDp gG SD, wDh ct SE] (some (.int r0)) 0 0 := by
  refine z_enter (own := RX11) (lv := [(0, .ref (aX 200)), (1, .int a1)]) (by decide) rfl (Nat.le_of_ble_eq_true rfl) rfl ?_
  intro p e s m args below meth c A E hr hnm
  unfold f_X11_feed at hf
  refine z_iload_n (pc := 0) (k0 := 1) E dX11_feed_0 rfl rfl ?_
  refine z_if_lt (pc := 1) (tgt := 10) E dX11_feed_1 (by decide) (fun c1 => ?_) (fun c1 => ?_)
  · have hf := kB_t hf c1
    refine z_bipush (pc := 10) (v := (-2)) E dX11_feed_10 (by decide) ?_
    cases hf
    exact z_iret E hr dX11_feed_12
  · have hf := kB_f hf c1
    refine z_iload_n (pc := 4) (k0 := 1) E dX11_feed_4 rfl rfl ?_
    refine z_bipush (pc := 5) (v := 127) E dX11_feed_5 (by decide) ?_
    refine z_icmp_le (pc := 7) (tgt := 13) E dX11_feed_7 (by decide) (fun c2 => ?_) (fun c2 => ?_)
    · have hf := kB_t hf c2
      refine z_aload_n (pc := 13) (k0 := 0) E dX11_feed_13 rfl rfl ?_
      refine gX_3 (pc := 14) (i := 0) E rfl wd_2_1 dX11_feed_14 ?_
      refine gR_5 (pc := 17) (i := 5) E rfl wd_18_1 dX11_feed_17 ?_
      refine z_bipush (pc := 20) (v := 100) E dX11_feed_20 (by decide) ?_
      refine z_icmp_lt (pc := 22) (tgt := 28) E dX11_feed_22 (by decide) (fun c3 => ?_) (fun c3 => ?_)
      · have hf := kB_t hf c3
        refine z_aload_n (pc := 28) (k0 := 0) E dX11_feed_28 rfl rfl ?_
        refine gX_3 (pc := 29) (i := 0) E rfl wd_2_1 dX11_feed_29 ?_
        refine gR_0 (pc := 32) (i := 5) E rfl wd_18_2 dX11_feed_32 ?_
        refine z_aload_n (pc := 35) (k0 := 0) E dX11_feed_35 rfl rfl ?_
        refine gX_3 (pc := 36) (i := 0) E rfl wd_2_1 dX11_feed_36 ?_
        refine z_dup (pc := 39) E dX11_feed_39 rfl ?_
        refine gR_5 (pc := 40) (i := 5) E rfl wd_18_1 dX11_feed_40 ?_
        refine z_dup_x1 (pc := 43) E dX11_feed_43 rfl rfl ?_
        refine z_iconst (pc := 44) (v := 1) E dX11_feed_44 (by decide) ?_
        obtain ⟨v4, e_v4, hf⟩ := kL_e hf
        refine z_iadd (pc := 45) (v := v4) E dX11_feed_45 e_v4 ?_
        obtain ⟨SR_5, e_SR_5, hf⟩ := kL_e hf
        refine pR_5 (pc := 46) (i := 5) (S1 := SR_5) E rfl e_SR_5 wd_18_1 dX11_feed_46 ?_
        show zJ p l e rm_X11_feed s m args below meth c (zQ G ct (some (.int r0)) [wX aX (aN 200) (aK 200) (aT 200) (aR 200) (aV 6) gG gY gZ ct SX, wH aN ct SN, wH aK ct SK, wT aT (aH 200) ct ST, wH aH ct SH, wR aR ct OR, wV aV ct SV, wA gG 21 ct SG, wA gY 5 ct SY, wA gZ 5 ct SZ, wDp gG SD, wDh ct SE] A below args s 0 0) A G 2 0 0 [wX aX (aN 200) (aK 200) (aT 200) (aR 200) (aV 6) gG gY gZ ct SX, wH aN ct SN, wH aK ct SK, wT aT (aH 200) ct ST, wH aH ct SH, wR aR ct SR_5, wV aV ct SV, wA gG 21 ct SG, wA gY 5 ct SY, wA gZ 5 ct SZ, wDp gG SD, wDh ct SE] [(0, .ref (aX 200)), (1, .int a1)] 49 [.int (SR.1 5), .ref (aR 0)]
        refine z_iload_n (pc := 49) (k0 := 1) E dX11_feed_49 rfl rfl ?_
        obtain ⟨c6, hf⟩ := kO_e hf
        obtain ⟨SR_7, e_SR_7, hf⟩ := kL_e hf
        refine sR_0 (pc := 50) (i := 5) (S1 := SR_7) E rfl c6 e_SR_7 dX11_feed_50 ?_
        show zJ p l e rm_X11_feed s m args below meth c (zQ G ct (some (.int r0)) [wX aX (aN 200) (aK 200) (aT 200) (aR 200) (aV 6) gG gY gZ ct SX, wH aN ct SN, wH aK ct SK, wT aT (aH 200) ct ST, wH aH ct SH, wR aR ct OR, wV aV ct SV, wA gG 21 ct SG, wA gY 5 ct SY, wA gZ 5 ct SZ, wDp gG SD, wDh ct SE] A below args s 0 0) A G 2 0 0 [wX aX (aN 200) (aK 200) (aT 200) (aR 200) (aV 6) gG gY gZ ct SX, wH aN ct SN, wH aK ct SK, wT aT (aH 200) ct ST, wH aH ct SH, wR aR ct SR_7, wV aV ct SV, wA gG 21 ct SG, wA gY 5 ct SY, wA gZ 5 ct SZ, wDp gG SD, wDh ct SE] [(0, .ref (aX 200)), (1, .int a1)] 51 []
        refine z_aload_n (pc := 51) (k0 := 0) E dX11_feed_51 rfl rfl ?_
        refine gX_3 (pc := 52) (i := 0) E rfl wd_2_1 dX11_feed_52 ?_
        refine gR_5 (pc := 55) (i := 5) E rfl wd_18_1 dX11_feed_55 ?_
        cases hf
        exact z_iret E hr dX11_feed_58
      · have hf := kB_f hf c3
        refine z_bipush (pc := 25) (v := (-4)) E dX11_feed_25 (by decide) ?_
        cases hf
        exact z_iret E hr dX11_feed_27
    · have hf := kB_f hf c2
      refine z_bipush (pc := 10) (v := (-2)) E dX11_feed_10 (by decide) ?_
      cases hf
      exact z_iret E hr dX11_feed_12
noncomputable def f_X11_told (SX : zRS) (SN : zHS) (SK : zHS) (ST : zTS) (SH : zHS) (SR : zRS) (SV : (Nat → Nat → Int64)) (SG : (Nat → Int32)) (SY : (Nat → Int32)) (SZ : (Nat → Int32)) (SD : (List (Nat × zPS))) (SE : (List ((Nat → Nat) × zQS))) (a1 : Int32) : Option Int32 := kB (a1 = 0) (some ((SN.1 16))) (kB (a1 = 1) (some ((SN.1 11))) (kB (a1 = 2) (some ((SN.1 12))) (kB (a1 = 3) (some ((SN.1 13))) (kB (a1 = 4) (some ((SN.1 14))) (kB (a1 = 5) (some ((SN.1 15))) (kB (a1 = 6) (some ((SN.1 18))) (kB (a1 = 7) (some ((SN.1 19))) (kB (a1 = 8) (kC (f_X1_how SN) (fun r10 => some (r10))) (some ((-1)))))))))))
theorem wv_X11_told : zWV RX11 yX11_told cX11_told 2 (some .int) 1 := ⟨wd_28_14, wd_28_15, wd_1_2, wd_28_16, by decide +kernel⟩
def rm_X11_told : Room := { frames := 1, cells := 0, slots := 0, locals := 20 }
set_option maxHeartbeats 4000000 in
set_option maxRecDepth 100000 in
theorem c_X11_told {l : Launch} {G : va_G} {ct : Nat → ClassId} {aX : Nat → Nat} {aN : Nat → Nat} {aK : Nat → Nat} {aT : Nat → Nat} {aH : Nat → Nat} {aR : Nat → Nat} {aV : Nat → Nat} {gG : Nat} {gY : Nat} {gZ : Nat} {SX : zRS} {SN : zHS} {SK : zHS} {ST : zTS} {SH : zHS} {SR : zRS} {SV : (Nat → Nat → Int64)} {SG : (Nat → Int32)} {SY : (Nat → Int32)} {SZ : (Nat → Int32)} {SD : (List (Nat × zPS))} {SE : (List ((Nat → Nat) × zQS))} {a1 : Int32} {r0 : Int32} (hf : f_X11_told SX SN SK ST SH SR SV SG SY SZ SD SE a1 = some r0) : zC l yX11_told cX11_told 2 (some .int) rm_X11_told G ct [.ref (aX 200), .int a1] [wX aX (aN 200) (aK 200) (aT 200) (aR 200) (aV 6) gG gY gZ ct SX, wH aN ct SN, wH aK ct SK, wT aT (aH 200) ct ST, wH aH ct SH, wR aR ct SR, wV aV ct SV, wA gG 21 ct SG, wA gY 5 ct SY, wA gZ 5 ct SZ, wDp gG SD, wDh ct SE] [wX aX (aN 200) (aK 200) (aT 200) (aR 200) (aV 6) gG gY gZ ct SX, wH aN ct SN, wH aK ct SK, wT aT (aH 200) ct ST, wH aH ct SH, wR aR ct SR, wV aV ct SV, wA gG 21 ct SG, wA gY 5 ct SY, wA gZ 5 ct SZ, wDp gG SD, wDh ct SE] (some (.int r0)) 0 0 := by
  refine z_enter (own := RX11) (lv := [(0, .ref (aX 200)), (1, .int a1)]) (by decide) rfl (Nat.le_of_ble_eq_true rfl) rfl ?_
  intro p e s m args below meth c A E hr hnm
  unfold f_X11_told at hf
  refine z_iload_n (pc := 0) (k0 := 1) E dX11_told_0 rfl rfl ?_
  by_cases c1 : a1 = 0
  · have hf := kB_t hf c1
    refine z_tswIn (pc := 1) (tgt := 52) (v := 0) (n := 0) (off := 51) E dX11_told_1 c1 (by decide) (by decide) (by decide) (by decide) (by decide) ?_
    refine z_aload_n (pc := 52) (k0 := 0) E dX11_told_52 rfl rfl ?_
    refine gX_0 (pc := 53) (i := 0) E rfl wd_1_16 dX11_told_53 ?_
    refine gH_16 (pc := 56) (i := 1) E rfl wd_28_17 dX11_told_56 ?_
    cases hf
    exact z_iret E hr dX11_told_59
  have hf := kB_f hf c1
  by_cases c2 : a1 = 1
  · have hf := kB_t hf c2
    refine z_tswIn (pc := 1) (tgt := 60) (v := 1) (n := 1) (off := 59) E dX11_told_1 c2 (by decide) (by decide) (by decide) (by decide) (by decide) ?_
    refine z_aload_n (pc := 60) (k0 := 0) E dX11_told_60 rfl rfl ?_
    refine gX_0 (pc := 61) (i := 0) E rfl wd_1_16 dX11_told_61 ?_
    refine gH_11 (pc := 64) (i := 1) E rfl wd_28_18 dX11_told_64 ?_
    cases hf
    exact z_iret E hr dX11_told_67
  have hf := kB_f hf c2
  by_cases c3 : a1 = 2
  · have hf := kB_t hf c3
    refine z_tswIn (pc := 1) (tgt := 68) (v := 2) (n := 2) (off := 67) E dX11_told_1 c3 (by decide) (by decide) (by decide) (by decide) (by decide) ?_
    refine z_aload_n (pc := 68) (k0 := 0) E dX11_told_68 rfl rfl ?_
    refine gX_0 (pc := 69) (i := 0) E rfl wd_1_16 dX11_told_69 ?_
    refine gH_12 (pc := 72) (i := 1) E rfl wd_28_19 dX11_told_72 ?_
    cases hf
    exact z_iret E hr dX11_told_75
  have hf := kB_f hf c3
  by_cases c4 : a1 = 3
  · have hf := kB_t hf c4
    refine z_tswIn (pc := 1) (tgt := 76) (v := 3) (n := 3) (off := 75) E dX11_told_1 c4 (by decide) (by decide) (by decide) (by decide) (by decide) ?_
    refine z_aload_n (pc := 76) (k0 := 0) E dX11_told_76 rfl rfl ?_
    refine gX_0 (pc := 77) (i := 0) E rfl wd_1_16 dX11_told_77 ?_
    refine gH_13 (pc := 80) (i := 1) E rfl wd_28_20 dX11_told_80 ?_
    cases hf
    exact z_iret E hr dX11_told_83
  have hf := kB_f hf c4
  by_cases c5 : a1 = 4
  · have hf := kB_t hf c5
    refine z_tswIn (pc := 1) (tgt := 84) (v := 4) (n := 4) (off := 83) E dX11_told_1 c5 (by decide) (by decide) (by decide) (by decide) (by decide) ?_
    refine z_aload_n (pc := 84) (k0 := 0) E dX11_told_84 rfl rfl ?_
    refine gX_0 (pc := 85) (i := 0) E rfl wd_1_16 dX11_told_85 ?_
    refine gH_14 (pc := 88) (i := 1) E rfl wd_28_21 dX11_told_88 ?_
    cases hf
    exact z_iret E hr dX11_told_91
  have hf := kB_f hf c5
  by_cases c6 : a1 = 5
  · have hf := kB_t hf c6
    refine z_tswIn (pc := 1) (tgt := 92) (v := 5) (n := 5) (off := 91) E dX11_told_1 c6 (by decide) (by decide) (by decide) (by decide) (by decide) ?_
    refine z_aload_n (pc := 92) (k0 := 0) E dX11_told_92 rfl rfl ?_
    refine gX_0 (pc := 93) (i := 0) E rfl wd_1_16 dX11_told_93 ?_
    refine gH_15 (pc := 96) (i := 1) E rfl wd_28_22 dX11_told_96 ?_
    cases hf
    exact z_iret E hr dX11_told_99
  have hf := kB_f hf c6
  by_cases c7 : a1 = 6
  · have hf := kB_t hf c7
    refine z_tswIn (pc := 1) (tgt := 100) (v := 6) (n := 6) (off := 99) E dX11_told_1 c7 (by decide) (by decide) (by decide) (by decide) (by decide) ?_
    refine z_aload_n (pc := 100) (k0 := 0) E dX11_told_100 rfl rfl ?_
    refine gX_0 (pc := 101) (i := 0) E rfl wd_1_16 dX11_told_101 ?_
    refine gH_18 (pc := 104) (i := 1) E rfl wd_28_23 dX11_told_104 ?_
    cases hf
    exact z_iret E hr dX11_told_107
  have hf := kB_f hf c7
  by_cases c8 : a1 = 7
  · have hf := kB_t hf c8
    refine z_tswIn (pc := 1) (tgt := 108) (v := 7) (n := 7) (off := 107) E dX11_told_1 c8 (by decide) (by decide) (by decide) (by decide) (by decide) ?_
    refine z_aload_n (pc := 108) (k0 := 0) E dX11_told_108 rfl rfl ?_
    refine gX_0 (pc := 109) (i := 0) E rfl wd_1_16 dX11_told_109 ?_
    refine gH_19 (pc := 112) (i := 1) E rfl wd_29_0 dX11_told_112 ?_
    cases hf
    exact z_iret E hr dX11_told_115
  have hf := kB_f hf c8
  by_cases c9 : a1 = 8
  · have hf := kB_t hf c9
    refine z_tswIn (pc := 1) (tgt := 116) (v := 8) (n := 8) (off := 115) E dX11_told_1 c9 (by decide) (by decide) (by decide) (by decide) (by decide) ?_
    refine z_aload_n (pc := 116) (k0 := 0) E dX11_told_116 rfl rfl ?_
    refine gX_0 (pc := 117) (i := 0) E rfl wd_1_16 dX11_told_117 ?_
    obtain ⟨r10, h11, hf⟩ := kC_e hf
    refine z_callV0 (pc := 120) (is := [1]) (n := 0) (As := []) (st := []) (st' := [.int r10]) (C2 := [wX aX (aN 200) (aK 200) (aT 200) (aR 200) (aV 6) gG gY gZ ct SX, wH aN ct SN, wH aK ct SK, wT aT (aH 200) ct ST, wH aH ct SH, wR aR ct SR, wV aV ct SV, wA gG 21 ct SG, wA gY 5 ct SY, wA gZ 5 ct SZ, wDp gG SD, wDh ct SE]) E (c_X1_how (l := l) (G := G) (ct := ct) (aH := aN) h11) wv_X1_how wd_29_1 ⟨Nat.le_of_ble_eq_true rfl, Nat.le_of_ble_eq_true rfl, Nat.le_of_ble_eq_true rfl, Nat.le_of_ble_eq_true rfl⟩ rfl rfl rfl (by decide) rfl rfl (zrH (j := 0) rfl) rfl (Nat.le_of_ble_eq_true rfl) dX11_told_120 rfl rfl ?_
    cases hf
    exact z_iret E hr dX11_told_123
  have hf := kB_f hf c9
  refine z_tswOut (pc := 1) (tgt := 124) E dX11_told_1 (by have n_c1 := lv_neT c1 (a := 0) (by decide); have n_c2 := lv_neT c2 (a := 1) (by decide); have n_c3 := lv_neT c3 (a := 2) (by decide); have n_c4 := lv_neT c4 (a := 3) (by decide); have n_c5 := lv_neT c5 (a := 4) (by decide); have n_c6 := lv_neT c6 (a := 5) (by decide); have n_c7 := lv_neT c7 (a := 6) (by decide); have n_c8 := lv_neT c8 (a := 7) (by decide); have n_c9 := lv_neT c9 (a := 8) (by decide); omega) (by decide) ?_
  refine z_iconst (pc := 124) (v := (-1)) E dX11_told_124 (by decide) ?_
  cases hf
  exact z_iret E hr dX11_told_125
noncomputable def f_X11_ask_b113 (N : Nat) (SX : zRS) (SK : zHS) (ST : zTS) (SH : zHS) (SR : zRS) (SV : (Nat → Nat → Int64)) (SG : (Nat → Int32)) (SY : (Nat → Int32)) (SZ : (Nat → Int32)) (SD : (List (Nat × zPS))) (SN : zHS) (SE : (List ((Nat → Nat) × zQS))) (x3 : Int32) (y0 : Int32) : Option (Int32 × zHS × ((List ((Nat → Nat) × zQS)))) := kL (hSI SN 15 y0) (fun SN_31 => kB (x3 = 0) (some (0, SN_31, SE)) (some (1, SN_31, SE)))
noncomputable def f_X11_ask (N : Nat) (SX : zRS) (SN : zHS) (SK : zHS) (ST : zTS) (SH : zHS) (SR : zRS) (SV : (Nat → Nat → Int64)) (SG : (Nat → Int32)) (SY : (Nat → Int32)) (SZ : (Nat → Int32)) (SD : (List (Nat × zPS))) (SE : (List ((Nat → Nat) × zQS))) (a1 : Int32) : Option (Int32 × zHS × ((List ((Nat → Nat) × zQS)))) := kC (f_X1_person SN a1) (fun r1 => kN r1 (some ((-1), SN, SE)) (fun w3 => kC (f_X1_how SN) (fun r5 => kB (r5 = 0) (kC (f_X1_has SN (SN.1 15)) (fun r8 => kB (r8 = 0) (some ((-3), SN, SE)) (kC (plook SD w3) (fun pv11 => kC (f_v_grants pv11 SN (SN.1 15)) (fun r16 => kD (f_X1_pass N SN SD SE (some w3) (SN.1 15) r16) (fun S_19 S_20 => kL ((S_19.1 15) + 1) (fun v22 => kB ((S_19.1 7) ≤ v22) (f_X11_ask_b113 N SX SK ST SH SR SV SG SY SZ SD S_19 S_20 r16 0) (kL ((S_19.1 15) + 1) (fun v24 => f_X11_ask_b113 N SX SK ST SH SR SV SG SY SZ SD S_19 S_20 r16 v24))))))))) (some ((-3), SN, SE)))))
theorem wv_X11_ask : zWV RX11 yX11_ask cX11_ask 4 (some .int) 1 := ⟨wd_29_20, wd_29_21, wd_1_2, wd_29_22, by decide +kernel⟩
def rm_X11_ask : Room := { frames := 4, cells := 0, slots := 0, locals := 124 }
set_option maxHeartbeats 4000000 in
set_option maxRecDepth 100000 in
theorem c_X11_ask {l : Launch} {G : va_G} {ct : Nat → ClassId} {aX : Nat → Nat} {aN : Nat → Nat} {aK : Nat → Nat} {aT : Nat → Nat} {aH : Nat → Nat} {aR : Nat → Nat} {aV : Nat → Nat} {gG : Nat} {gY : Nat} {gZ : Nat} {N : Nat} {SX : zRS} {SN : zHS} {SK : zHS} {ST : zTS} {SH : zHS} {SR : zRS} {SV : (Nat → Nat → Int64)} {SG : (Nat → Int32)} {SY : (Nat → Int32)} {SZ : (Nat → Int32)} {SD : (List (Nat × zPS))} {SE : (List ((Nat → Nat) × zQS))} {a1 : Int32} {r0 : Int32} {ON : zHS} {OE : (List ((Nat → Nat) × zQS))} (hf : f_X11_ask N SX SN SK ST SH SR SV SG SY SZ SD SE a1 = some (r0, ON, OE)) : zC l yX11_ask cX11_ask 4 (some .int) rm_X11_ask G ct [.ref (aX 200), .int a1] [wX aX (aN 200) (aK 200) (aT 200) (aR 200) (aV 6) gG gY gZ ct SX, wH aN ct SN, wH aK ct SK, wT aT (aH 200) ct ST, wH aH ct SH, wR aR ct SR, wV aV ct SV, wA gG 21 ct SG, wA gY 5 ct SY, wA gZ 5 ct SZ, wDp gG SD, wDh ct SE] [wX aX (aN 200) (aK 200) (aT 200) (aR 200) (aV 6) gG gY gZ ct SX, wH aN ct ON, wH aK ct SK, wT aT (aH 200) ct ST, wH aH ct SH, wR aR ct SR, wV aV ct SV, wA gG 21 ct SG, wA gY 5 ct SY, wA gZ 5 ct SZ, wDp gG SD, wDh ct OE] (some (.int r0)) 0 0 := by
  refine z_enter (own := RX11) (lv := [(0, .ref (aX 200)), (1, .int a1)]) (by decide) rfl (Nat.le_of_ble_eq_true rfl) rfl ?_
  intro p e s m args below meth c A E hr hnm
  have B113 : ∀ (SN : zHS) (SE : (List ((Nat → Nat) × zQS))) (x3 : Int32) (y0 : Int32), f_X11_ask_b113 N SX SK ST SH SR SV SG SY SZ SD SN SE x3 y0 = some (r0, ON, OE) → zJ p l e rm_X11_ask s m args below meth c (zQ G ct (some (.int r0)) [wX aX (aN 200) (aK 200) (aT 200) (aR 200) (aV 6) gG gY gZ ct SX, wH aN ct ON, wH aK ct SK, wT aT (aH 200) ct ST, wH aH ct SH, wR aR ct SR, wV aV ct SV, wA gG 21 ct SG, wA gY 5 ct SY, wA gZ 5 ct SZ, wDp gG SD, wDh ct OE] A below args s 0 0) A G 4 0 0 [wX aX (aN 200) (aK 200) (aT 200) (aR 200) (aV 6) gG gY gZ ct SX, wH aN ct SN, wH aK ct SK, wT aT (aH 200) ct ST, wH aH ct SH, wR aR ct SR, wV aV ct SV, wA gG 21 ct SG, wA gY 5 ct SY, wA gZ 5 ct SZ, wDp gG SD, wDh ct SE] [(3, .int x3)] 113 [.int y0, .ref (aN 200)] := by
    intro SN SE x3 y0 hf
    unfold f_X11_ask_b113 at hf
    obtain ⟨SN_31, e_SN_31, hf⟩ := kL_e hf
    refine pH_15 (pc := 113) (i := 1) (S1 := SN_31) E rfl e_SN_31 wd_28_22 dX11_ask_113 ?_
    show zJ p l e rm_X11_ask s m args below meth c (zQ G ct (some (.int r0)) [wX aX (aN 200) (aK 200) (aT 200) (aR 200) (aV 6) gG gY gZ ct SX, wH aN ct ON, wH aK ct SK, wT aT (aH 200) ct ST, wH aH ct SH, wR aR ct SR, wV aV ct SV, wA gG 21 ct SG, wA gY 5 ct SY, wA gZ 5 ct SZ, wDp gG SD, wDh ct OE] A below args s 0 0) A G 4 0 0 [wX aX (aN 200) (aK 200) (aT 200) (aR 200) (aV 6) gG gY gZ ct SX, wH aN ct SN_31, wH aK ct SK, wT aT (aH 200) ct ST, wH aH ct SH, wR aR ct SR, wV aV ct SV, wA gG 21 ct SG, wA gY 5 ct SY, wA gZ 5 ct SZ, wDp gG SD, wDh ct SE] [(3, .int x3)] 116 []
    refine z_iload_n (pc := 116) (k0 := 0) E dX11_ask_116 rfl rfl ?_
    refine z_if_eq (pc := 117) (tgt := 124) E dX11_ask_117 (by decide) (fun c32 => ?_) (fun c32 => ?_)
    · have hf := kB_t hf c32
      refine z_iconst (pc := 124) (v := 0) E dX11_ask_124 (by decide) ?_
      cases hf
      exact z_iret E hr dX11_ask_125
    · have hf := kB_f hf c32
      refine z_iconst (pc := 120) (v := 1) E dX11_ask_120 (by decide) ?_
      refine z_goto (pc := 121) (tgt := 125) E dX11_ask_121 (by decide) ?_
      cases hf
      exact z_iret E hr dX11_ask_125
  unfold f_X11_ask at hf
  refine z_aload_n (pc := 0) (k0 := 0) E dX11_ask_0 rfl rfl ?_
  refine gX_0 (pc := 1) (i := 0) E rfl wd_1_16 dX11_ask_1 ?_
  refine z_iload_n (pc := 4) (k0 := 1) E dX11_ask_4 rfl rfl ?_
  obtain ⟨r1, h2, hf⟩ := kC_e hf
  refine z_callV0 (pc := 5) (is := [1]) (n := 1) (As := [.int a1]) (st := []) (st' := [va_rf r1]) (C2 := [wX aX (aN 200) (aK 200) (aT 200) (aR 200) (aV 6) gG gY gZ ct SX, wH aN ct SN, wH aK ct SK, wT aT (aH 200) ct ST, wH aH ct SH, wR aR ct SR, wV aV ct SV, wA gG 21 ct SG, wA gY 5 ct SY, wA gZ 5 ct SZ, wDp gG SD, wDh ct SE]) E (c_X1_person (l := l) (G := G) (ct := ct) (aH := aN) h2) wv_X1_person wd_11_10 ⟨Nat.le_of_ble_eq_true rfl, Nat.le_of_ble_eq_true rfl, Nat.le_of_ble_eq_true rfl, Nat.le_of_ble_eq_true rfl⟩ rfl rfl rfl (by decide) rfl rfl (zrH (j := 0) rfl) rfl (Nat.le_of_ble_eq_true rfl) dX11_ask_5 rfl rfl ?_
  refine z_qstore_n (pc := 8) (lv' := [(2, va_rf r1), (0, .ref (aX 200)), (1, .int a1)]) E dX11_ask_8 rfl (by decide) rfl ?_
  refine z_qload_n (pc := 9) (k0 := 0) E dX11_ask_9 rfl rfl ?_
  refine z_ifnonnull (pc := 10) (tgt := 15) E dX11_ask_10 (by decide) (fun w3 e4 => ?_) (fun e4 => ?_)
  · have hf := kN_s hf e4
    have hf_e4 := hf
    subst e4
    have hf := hf_e4
    refine z_aload_n (pc := 15) (k0 := 1) E dX11_ask_15 rfl rfl ?_
    refine gX_0 (pc := 16) (i := 0) E rfl wd_1_16 dX11_ask_16 ?_
    obtain ⟨r5, h6, hf⟩ := kC_e hf
    refine z_callV0 (pc := 19) (is := [1]) (n := 0) (As := []) (st := []) (st' := [.int r5]) (C2 := [wX aX (aN 200) (aK 200) (aT 200) (aR 200) (aV 6) gG gY gZ ct SX, wH aN ct SN, wH aK ct SK, wT aT (aH 200) ct ST, wH aH ct SH, wR aR ct SR, wV aV ct SV, wA gG 21 ct SG, wA gY 5 ct SY, wA gZ 5 ct SZ, wDp gG SD, wDh ct SE]) E (c_X1_how (l := l) (G := G) (ct := ct) (aH := aN) h6) wv_X1_how wd_29_1 ⟨Nat.le_of_ble_eq_true rfl, Nat.le_of_ble_eq_true rfl, Nat.le_of_ble_eq_true rfl, Nat.le_of_ble_eq_true rfl⟩ rfl rfl rfl (by decide) rfl rfl (zrH (j := 0) rfl) rfl (Nat.le_of_ble_eq_true rfl) dX11_ask_19 rfl rfl ?_
    refine z_if_ne (pc := 22) (tgt := 42) E dX11_ask_22 (by decide) (fun c7 => ?_) (fun c7 => ?_)
    · have hf := kB_f hf c7
      refine z_bipush (pc := 42) (v := (-3)) E dX11_ask_42 (by decide) ?_
      cases hf
      exact z_iret E hr dX11_ask_44
    · have hf := kB_t hf c7
      refine z_aload_n (pc := 25) (k0 := 1) E dX11_ask_25 rfl rfl ?_
      refine gX_0 (pc := 26) (i := 0) E rfl wd_1_16 dX11_ask_26 ?_
      refine z_aload_n (pc := 29) (k0 := 1) E dX11_ask_29 rfl rfl ?_
      refine gX_0 (pc := 30) (i := 0) E rfl wd_1_16 dX11_ask_30 ?_
      refine gH_15 (pc := 33) (i := 1) E rfl wd_28_22 dX11_ask_33 ?_
      obtain ⟨r8, h9, hf⟩ := kC_e hf
      refine z_callV0 (pc := 36) (is := [1]) (n := 1) (As := [.int (SN.1 15)]) (st := []) (st' := [.int r8]) (C2 := [wX aX (aN 200) (aK 200) (aT 200) (aR 200) (aV 6) gG gY gZ ct SX, wH aN ct SN, wH aK ct SK, wT aT (aH 200) ct ST, wH aH ct SH, wR aR ct SR, wV aV ct SV, wA gG 21 ct SG, wA gY 5 ct SY, wA gZ 5 ct SZ, wDp gG SD, wDh ct SE]) E (c_X1_has (l := l) (G := G) (ct := ct) (aH := aN) h9) wv_X1_has wd_10_15 ⟨Nat.le_of_ble_eq_true rfl, Nat.le_of_ble_eq_true rfl, Nat.le_of_ble_eq_true rfl, Nat.le_of_ble_eq_true rfl⟩ rfl rfl rfl (by decide) rfl rfl (zrH (j := 0) rfl) rfl (Nat.le_of_ble_eq_true rfl) dX11_ask_36 rfl rfl ?_
      refine z_if_ne (pc := 39) (tgt := 45) E dX11_ask_39 (by decide) (fun c10 => ?_) (fun c10 => ?_)
      · have hf := kB_f hf c10
        refine z_aload_n (pc := 45) (k0 := 0) E dX11_ask_45 rfl rfl ?_
        refine z_aload_n (pc := 46) (k0 := 1) E dX11_ask_46 rfl rfl ?_
        refine gX_0 (pc := 47) (i := 0) E rfl wd_1_16 dX11_ask_47 ?_
        refine z_aload_n (pc := 50) (k0 := 1) E dX11_ask_50 rfl rfl ?_
        refine gX_0 (pc := 51) (i := 0) E rfl wd_1_16 dX11_ask_51 ?_
        refine gH_15 (pc := 54) (i := 1) E rfl wd_28_22 dX11_ask_54 ?_
        obtain ⟨pv11, hp12, hf⟩ := kC_e hf
        obtain ⟨DA13, DB14, eD15⟩ := wDp_at (g := gG) hp12
        obtain ⟨r16, h17, hf⟩ := kC_e hf
        refine z_world (Cs' := [wX aX (aN 200) (aK 200) (aT 200) (aR 200) (aV 6) gG gY gZ ct SX, wH aN ct SN, wH aK ct SK, wT aT (aH 200) ct ST, wH aH ct SH, wR aR ct SR, wV aV ct SV, wA gG 21 ct SG, wA gY 5 ct SY, wA gZ 5 ct SZ, DA13, wPa gG w3 pv11, DB14, wDh ct SE]) (by rw [eD15]; simp [zfl]) ?_
        have K18 : zJ p l e rm_X11_ask s m args below meth c (zQ G ct (some (.int r0)) [wX aX (aN 200) (aK 200) (aT 200) (aR 200) (aV 6) gG gY gZ ct SX, wH aN ct ON, wH aK ct SK, wT aT (aH 200) ct ST, wH aH ct SH, wR aR ct SR, wV aV ct SV, wA gG 21 ct SG, wA gY 5 ct SY, wA gZ 5 ct SZ, wDp gG SD, wDh ct OE] A below args s 0 0) A G 4 0 0 [wX aX (aN 200) (aK 200) (aT 200) (aR 200) (aV 6) gG gY gZ ct SX, wH aN ct SN, wH aK ct SK, wT aT (aH 200) ct ST, wH aH ct SH, wR aR ct SR, wV aV ct SV, wA gG 21 ct SG, wA gY 5 ct SY, wA gZ 5 ct SZ, wDp gG SD, wDh ct SE] [(2, .ref w3), (0, .ref (aX 200)), (1, .int a1)] 60 [.int r16] := by
          refine z_istore_n (pc := 60) (lv' := [(3, .int r16), (2, .ref w3), (0, .ref (aX 200)), (1, .int a1)]) E dX11_ask_60 rfl (by decide) rfl ?_
          refine z_aload_n (pc := 61) (k0 := 2) E dX11_ask_61 rfl rfl ?_
          refine gX_0 (pc := 62) (i := 0) E rfl wd_1_16 dX11_ask_62 ?_
          refine z_aload_n (pc := 65) (k0 := 1) E dX11_ask_65 rfl rfl ?_
          refine z_aload_n (pc := 66) (k0 := 2) E dX11_ask_66 rfl rfl ?_
          refine gX_0 (pc := 67) (i := 0) E rfl wd_1_16 dX11_ask_67 ?_
          refine gH_15 (pc := 70) (i := 1) E rfl wd_28_22 dX11_ask_70 ?_
          refine z_iload_n (pc := 73) (k0 := 0) E dX11_ask_73 rfl rfl ?_
          obtain ⟨S_19, S_20, h21, hf⟩ := kD_e hf
          refine z_callV0 (pc := 74) (is := [1, 10, 11]) (n := 3) (As := [.ref w3, .int (SN.1 15), .int r16]) (st := []) (st' := []) (C2 := [wX aX (aN 200) (aK 200) (aT 200) (aR 200) (aV 6) gG gY gZ ct SX, wH aN ct S_19, wH aK ct SK, wT aT (aH 200) ct ST, wH aH ct SH, wR aR ct SR, wV aV ct SV, wA gG 21 ct SG, wA gY 5 ct SY, wA gZ 5 ct SZ, wDp gG SD, wDh ct S_20]) E (c_X1_pass (l := l) (G := G) (ct := ct) (aH := aN) (gG := gG) h21) wv_X1_pass wd_29_23 ⟨Nat.le_of_ble_eq_true rfl, Nat.le_of_ble_eq_true rfl, Nat.le_of_ble_eq_true rfl, Nat.le_of_ble_eq_true rfl⟩ rfl rfl rfl (by decide) rfl rfl (zrH (j := 0) rfl) rfl (Nat.le_of_ble_eq_true rfl) dX11_ask_74 rfl rfl ?_
          refine z_aload_n (pc := 77) (k0 := 2) E dX11_ask_77 rfl rfl ?_
          refine gX_0 (pc := 78) (i := 0) E rfl wd_1_16 dX11_ask_78 ?_
          refine z_aload_n (pc := 81) (k0 := 2) E dX11_ask_81 rfl rfl ?_
          refine gX_0 (pc := 82) (i := 0) E rfl wd_1_16 dX11_ask_82 ?_
          refine gH_15 (pc := 85) (i := 1) E rfl wd_28_22 dX11_ask_85 ?_
          refine z_iconst (pc := 88) (v := 1) E dX11_ask_88 (by decide) ?_
          obtain ⟨v22, e_v22, hf⟩ := kL_e hf
          refine z_iadd (pc := 89) (v := v22) E dX11_ask_89 e_v22 ?_
          refine z_aload_n (pc := 90) (k0 := 2) E dX11_ask_90 rfl rfl ?_
          refine gX_0 (pc := 91) (i := 0) E rfl wd_1_16 dX11_ask_91 ?_
          refine gH_7 (pc := 94) (i := 1) E rfl wd_7_3 dX11_ask_94 ?_
          refine z_icmp_ge (pc := 97) (tgt := 112) E dX11_ask_97 (by decide) (fun c23 => ?_) (fun c23 => ?_)
          · have hf := kB_t hf c23
            refine z_iconst (pc := 112) (v := 0) E dX11_ask_112 (by decide) ?_
            refine z_sub [0] (lv' := [(3, .int r16)]) rfl ?_
            exact B113 S_19 S_20 r16 0 hf
          · have hf := kB_f hf c23
            refine z_aload_n (pc := 100) (k0 := 2) E dX11_ask_100 rfl rfl ?_
            refine gX_0 (pc := 101) (i := 0) E rfl wd_1_16 dX11_ask_101 ?_
            refine gH_15 (pc := 104) (i := 1) E rfl wd_28_22 dX11_ask_104 ?_
            refine z_iconst (pc := 107) (v := 1) E dX11_ask_107 (by decide) ?_
            obtain ⟨v24, e_v24, hf⟩ := kL_e hf
            refine z_iadd (pc := 108) (v := v24) E dX11_ask_108 e_v24 ?_
            refine z_goto (pc := 109) (tgt := 113) E dX11_ask_109 (by decide) ?_
            refine z_sub [0] (lv' := [(3, .int r16)]) rfl ?_
            exact B113 S_19 S_20 r16 v24 hf
        by_cases k25 : pv11.1 = 1
        · have h17 := f_v_grants_1 k25 h17
          refine z_callO (x := ⟨"MoreStory$Parent", "grants", "(LMoreStory$Home;I)Z"⟩) (owner := "MoreStory$Parent") (pc := 57) (is := [11, 1]) (n := 2) (As := [.ref (aN 200), .int (SN.1 15)]) (st := []) (st' := [.int r16]) (C2 := [wX aX (aN 200) (aK 200) (aT 200) (aR 200) (aV 6) gG gY gZ ct SX, wH aN ct SN, wH aK ct SK, wT aT (aH 200) ct ST, wH aH ct SH, wR aR ct SR, wV aV ct SV, wA gG 21 ct SG, wA gY 5 ct SY, wA gZ 5 ct SZ, DA13, wPa gG w3 pv11, DB14, wDh ct SE]) E (c_X6_grants (l := l) (G := G) (ct := ct) (gG := gG) (aP := w3) (aH := aN) h17) wd_11_15 wd_11_16 wd_11_17 wd_13_8 wd_13_0 wd_8_4 wd_13_1 wd_12_11 ⟨by decide, by decide, by decide +kernel⟩ ⟨Nat.le_of_ble_eq_true rfl, Nat.le_of_ble_eq_true rfl, Nat.le_of_ble_eq_true rfl, Nat.le_of_ble_eq_true rfl⟩ rfl rfl rfl (by decide) rfl rfl (zrP6 k25 (j := 0) rfl) rfl (Nat.le_of_ble_eq_true rfl) dX11_ask_57 rfl rfl ?_
          refine z_world (Cs' := [wX aX (aN 200) (aK 200) (aT 200) (aR 200) (aV 6) gG gY gZ ct SX, wH aN ct SN, wH aK ct SK, wT aT (aH 200) ct ST, wH aH ct SH, wR aR ct SR, wV aV ct SV, wA gG 21 ct SG, wA gY 5 ct SY, wA gZ 5 ct SZ, wDp gG SD, wDh ct SE]) (by rw [eD15]; simp [zfl]) ?_
          exact K18
        by_cases k26 : pv11.1 = 2
        · have h17 := f_v_grants_2 k26 h17
          refine z_callO (x := ⟨"MoreStory$Parent", "grants", "(LMoreStory$Home;I)Z"⟩) (owner := "MoreStory$Parent") (pc := 57) (is := [11, 1]) (n := 2) (As := [.ref (aN 200), .int (SN.1 15)]) (st := []) (st' := [.int r16]) (C2 := [wX aX (aN 200) (aK 200) (aT 200) (aR 200) (aV 6) gG gY gZ ct SX, wH aN ct SN, wH aK ct SK, wT aT (aH 200) ct ST, wH aH ct SH, wR aR ct SR, wV aV ct SV, wA gG 21 ct SG, wA gY 5 ct SY, wA gZ 5 ct SZ, DA13, wPa gG w3 pv11, DB14, wDh ct SE]) E (c_X7_grants (l := l) (G := G) (ct := ct) (gG := gG) (aP := w3) (aH := aN) h17) wd_11_15 wd_11_16 wd_11_17 wd_13_9 wd_12_3 wd_8_7 wd_12_4 wd_12_11 ⟨by decide, by decide, by decide +kernel⟩ ⟨Nat.le_of_ble_eq_true rfl, Nat.le_of_ble_eq_true rfl, Nat.le_of_ble_eq_true rfl, Nat.le_of_ble_eq_true rfl⟩ rfl rfl rfl (by decide) rfl rfl (zrP7 k26 (j := 0) rfl) rfl (Nat.le_of_ble_eq_true rfl) dX11_ask_57 rfl rfl ?_
          refine z_world (Cs' := [wX aX (aN 200) (aK 200) (aT 200) (aR 200) (aV 6) gG gY gZ ct SX, wH aN ct SN, wH aK ct SK, wT aT (aH 200) ct ST, wH aH ct SH, wR aR ct SR, wV aV ct SV, wA gG 21 ct SG, wA gY 5 ct SY, wA gZ 5 ct SZ, wDp gG SD, wDh ct SE]) (by rw [eD15]; simp [zfl]) ?_
          exact K18
        by_cases k27 : pv11.1 = 3
        · have h17 := f_v_grants_3 k27 h17
          refine z_callO (x := ⟨"MoreStory$Parent", "grants", "(LMoreStory$Home;I)Z"⟩) (owner := "MoreStory$Parent") (pc := 57) (is := [11, 1]) (n := 2) (As := [.ref (aN 200), .int (SN.1 15)]) (st := []) (st' := [.int r16]) (C2 := [wX aX (aN 200) (aK 200) (aT 200) (aR 200) (aV 6) gG gY gZ ct SX, wH aN ct SN, wH aK ct SK, wT aT (aH 200) ct ST, wH aH ct SH, wR aR ct SR, wV aV ct SV, wA gG 21 ct SG, wA gY 5 ct SY, wA gZ 5 ct SZ, DA13, wPa gG w3 pv11, DB14, wDh ct SE]) E (c_X8_grants (l := l) (G := G) (ct := ct) (gG := gG) (aP := w3) (aH := aN) h17) wd_11_15 wd_11_16 wd_11_17 wd_13_10 wd_13_11 wd_8_10 wd_13_12 wd_12_11 ⟨by decide, by decide, by decide +kernel⟩ ⟨Nat.le_of_ble_eq_true rfl, Nat.le_of_ble_eq_true rfl, Nat.le_of_ble_eq_true rfl, Nat.le_of_ble_eq_true rfl⟩ rfl rfl rfl (by decide) rfl rfl (zrP8 k27 (j := 0) rfl) rfl (Nat.le_of_ble_eq_true rfl) dX11_ask_57 rfl rfl ?_
          refine z_world (Cs' := [wX aX (aN 200) (aK 200) (aT 200) (aR 200) (aV 6) gG gY gZ ct SX, wH aN ct SN, wH aK ct SK, wT aT (aH 200) ct ST, wH aH ct SH, wR aR ct SR, wV aV ct SV, wA gG 21 ct SG, wA gY 5 ct SY, wA gZ 5 ct SZ, wDp gG SD, wDh ct SE]) (by rw [eD15]; simp [zfl]) ?_
          exact K18
        by_cases k28 : pv11.1 = 4
        · have h17 := f_v_grants_4 k28 h17
          refine z_callO (x := ⟨"MoreStory$Parent", "grants", "(LMoreStory$Home;I)Z"⟩) (owner := "MoreStory$Parent") (pc := 57) (is := [11, 1]) (n := 2) (As := [.ref (aN 200), .int (SN.1 15)]) (st := []) (st' := [.int r16]) (C2 := [wX aX (aN 200) (aK 200) (aT 200) (aR 200) (aV 6) gG gY gZ ct SX, wH aN ct SN, wH aK ct SK, wT aT (aH 200) ct ST, wH aH ct SH, wR aR ct SR, wV aV ct SV, wA gG 21 ct SG, wA gY 5 ct SY, wA gZ 5 ct SZ, DA13, wPa gG w3 pv11, DB14, wDh ct SE]) E (c_X3_grants (l := l) (G := G) (ct := ct) (gG := gG) (aP := w3) (aH := aN) h17) wd_11_15 wd_11_16 wd_11_17 wd_12_17 wd_12_18 wd_8_13 wd_12_19 wd_12_11 ⟨by decide, by decide, by decide +kernel⟩ ⟨Nat.le_of_ble_eq_true rfl, Nat.le_of_ble_eq_true rfl, Nat.le_of_ble_eq_true rfl, Nat.le_of_ble_eq_true rfl⟩ rfl rfl rfl (by decide) rfl rfl (zrP3 k28 (j := 0) rfl) rfl (Nat.le_of_ble_eq_true rfl) dX11_ask_57 rfl rfl ?_
          refine z_world (Cs' := [wX aX (aN 200) (aK 200) (aT 200) (aR 200) (aV 6) gG gY gZ ct SX, wH aN ct SN, wH aK ct SK, wT aT (aH 200) ct ST, wH aH ct SH, wR aR ct SR, wV aV ct SV, wA gG 21 ct SG, wA gY 5 ct SY, wA gZ 5 ct SZ, wDp gG SD, wDh ct SE]) (by rw [eD15]; simp [zfl]) ?_
          exact K18
        by_cases k29 : pv11.1 = 5
        · have h17 := f_v_grants_5 k29 h17
          refine z_callO (x := ⟨"MoreStory$Parent", "grants", "(LMoreStory$Home;I)Z"⟩) (owner := "MoreStory$Parent") (pc := 57) (is := [11, 1]) (n := 2) (As := [.ref (aN 200), .int (SN.1 15)]) (st := []) (st' := [.int r16]) (C2 := [wX aX (aN 200) (aK 200) (aT 200) (aR 200) (aV 6) gG gY gZ ct SX, wH aN ct SN, wH aK ct SK, wT aT (aH 200) ct ST, wH aH ct SH, wR aR ct SR, wV aV ct SV, wA gG 21 ct SG, wA gY 5 ct SY, wA gZ 5 ct SZ, DA13, wPa gG w3 pv11, DB14, wDh ct SE]) E (c_X0_grants (l := l) (G := G) (ct := ct) (gG := gG) (aP := w3) (aH := aN) h17) wd_11_15 wd_11_16 wd_11_17 wd_11_18 wd_11_19 wd_8_16 wd_11_20 wd_12_11 ⟨by decide, by decide, by decide +kernel⟩ ⟨Nat.le_of_ble_eq_true rfl, Nat.le_of_ble_eq_true rfl, Nat.le_of_ble_eq_true rfl, Nat.le_of_ble_eq_true rfl⟩ rfl rfl rfl (by decide) rfl rfl (zrP0 k29 (j := 0) rfl) rfl (Nat.le_of_ble_eq_true rfl) dX11_ask_57 rfl rfl ?_
          refine z_world (Cs' := [wX aX (aN 200) (aK 200) (aT 200) (aR 200) (aV 6) gG gY gZ ct SX, wH aN ct SN, wH aK ct SK, wT aT (aH 200) ct ST, wH aH ct SH, wR aR ct SR, wV aV ct SV, wA gG 21 ct SG, wA gY 5 ct SY, wA gZ 5 ct SZ, wDp gG SD, wDh ct SE]) (by rw [eD15]; simp [zfl]) ?_
          exact K18
        by_cases k30 : pv11.1 = 6
        · have h17 := f_v_grants_6 k30 h17
          refine z_callO (x := ⟨"MoreStory$Parent", "grants", "(LMoreStory$Home;I)Z"⟩) (owner := "MoreStory$Parent") (pc := 57) (is := [11, 1]) (n := 2) (As := [.ref (aN 200), .int (SN.1 15)]) (st := []) (st' := [.int r16]) (C2 := [wX aX (aN 200) (aK 200) (aT 200) (aR 200) (aV 6) gG gY gZ ct SX, wH aN ct SN, wH aK ct SK, wT aT (aH 200) ct ST, wH aH ct SH, wR aR ct SR, wV aV ct SV, wA gG 21 ct SG, wA gY 5 ct SY, wA gZ 5 ct SZ, DA13, wPa gG w3 pv11, DB14, wDh ct SE]) E (c_X9_grants (l := l) (G := G) (ct := ct) (gG := gG) (aP := w3) (aH := aN) h17) wd_11_15 wd_11_16 wd_11_17 wd_13_17 wd_13_18 wd_8_19 wd_13_19 wd_12_11 ⟨by decide, by decide, by decide +kernel⟩ ⟨Nat.le_of_ble_eq_true rfl, Nat.le_of_ble_eq_true rfl, Nat.le_of_ble_eq_true rfl, Nat.le_of_ble_eq_true rfl⟩ rfl rfl rfl (by decide) rfl rfl (zrP9 k30 (j := 0) rfl) rfl (Nat.le_of_ble_eq_true rfl) dX11_ask_57 rfl rfl ?_
          refine z_world (Cs' := [wX aX (aN 200) (aK 200) (aT 200) (aR 200) (aV 6) gG gY gZ ct SX, wH aN ct SN, wH aK ct SK, wT aT (aH 200) ct ST, wH aH ct SH, wR aR ct SR, wV aV ct SV, wA gG 21 ct SG, wA gY 5 ct SY, wA gZ 5 ct SZ, wDp gG SD, wDh ct SE]) (by rw [eD15]; simp [zfl]) ?_
          exact K18
        have h17 := f_v_grants_e k25 k26 k27 k28 k29 k30 h17
        refine z_callV0 (pc := 57) (is := [11, 1]) (n := 2) (As := [.ref (aN 200), .int (SN.1 15)]) (st := []) (st' := [.int r16]) (C2 := [wX aX (aN 200) (aK 200) (aT 200) (aR 200) (aV 6) gG gY gZ ct SX, wH aN ct SN, wH aK ct SK, wT aT (aH 200) ct ST, wH aH ct SH, wR aR ct SR, wV aV ct SV, wA gG 21 ct SG, wA gY 5 ct SY, wA gZ 5 ct SZ, DA13, wPa gG w3 pv11, DB14, wDh ct SE]) E (c_X4_grants (l := l) (G := G) (ct := ct) (gG := gG) (aP := w3) (aH := aN) h17) wv_X4_grants wd_13_6 ⟨Nat.le_of_ble_eq_true rfl, Nat.le_of_ble_eq_true rfl, Nat.le_of_ble_eq_true rfl, Nat.le_of_ble_eq_true rfl⟩ rfl rfl rfl (by decide) rfl rfl (zrP4 k25 k26 k27 k28 k29 k30 (j := 0) rfl) rfl (Nat.le_of_ble_eq_true rfl) dX11_ask_57 rfl rfl ?_
        refine z_world (Cs' := [wX aX (aN 200) (aK 200) (aT 200) (aR 200) (aV 6) gG gY gZ ct SX, wH aN ct SN, wH aK ct SK, wT aT (aH 200) ct ST, wH aH ct SH, wR aR ct SR, wV aV ct SV, wA gG 21 ct SG, wA gY 5 ct SY, wA gZ 5 ct SZ, wDp gG SD, wDh ct SE]) (by rw [eD15]; simp [zfl]) ?_
        exact K18
      · have hf := kB_t hf c10
        refine z_bipush (pc := 42) (v := (-3)) E dX11_ask_42 (by decide) ?_
        cases hf
        exact z_iret E hr dX11_ask_44
  · have hf := kN_n hf e4
    refine z_iconst (pc := 13) (v := (-1)) E dX11_ask_13 (by decide) ?_
    cases hf
    exact z_iret E hr dX11_ask_14
