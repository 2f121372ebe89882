noncomputable def f_X11_coupons_l17 (N : Nat) (SX : zRS) (SN : zHS) (SK : zHS) (SR : zRS) (SV : (Nat → Nat → Int64)) (SG : (Nat → Int32)) (SY : (Nat → Int32)) (SZ : (Nat → Int32)) (SD : (List (Nat × zPS))) : Nat → zTS → zHS → ((List ((Nat → Nat) × zQS))) → Nat → Int32 → Option (Int32 × zTS × zHS × ((List ((Nat → Nat) × zQS)))) := fun n => Nat.rec (motive := fun _ => zTS → zHS → ((List ((Nat → Nat) × zQS))) → Nat → Int32 → Option (Int32 × zTS × zHS × ((List ((Nat → Nat) × zQS))))) (fun _ _ _ _ _ => none) (fun _ ih ST SH SE x2 x3 => kB (20 < x3) (some ((-5), ST, SH, SE)) (kD (f_X10_start N ST SH SN SD) (fun S_6 S_7 => kL (tSI S_6 4 x3) (fun ST_9 => kD4 (f_X10_sleepsAt N ST_9 S_7 SD SE (some x2) (some x2)) (fun r10 S_11 S_12 S_13 => kB (r10 = (-5)) (kL (x3 + 1) (fun v16 => ih S_11 S_12 S_13 x2 v16)) (some (x3, S_11, S_12, S_13))))))) n
theorem f_X11_coupons_l17_z (N : Nat) (SX : zRS) (SN : zHS) (SK : zHS) (SR : zRS) (SV : (Nat → Nat → Int64)) (SG : (Nat → Int32)) (SY : (Nat → Int32)) (SZ : (Nat → Int32)) (SD : (List (Nat × zPS))) (ST : zTS) (SH : zHS) (SE : (List ((Nat → Nat) × zQS))) (x2 : Nat) (x3 : Int32) : f_X11_coupons_l17 N SX SN SK SR SV SG SY SZ SD 0 ST SH SE x2 x3 = none := rfl
theorem f_X11_coupons_l17_s (N : Nat) (SX : zRS) (SN : zHS) (SK : zHS) (SR : zRS) (SV : (Nat → Nat → Int64)) (SG : (Nat → Int32)) (SY : (Nat → Int32)) (SZ : (Nat → Int32)) (SD : (List (Nat × zPS))) (n : Nat) (ST : zTS) (SH : zHS) (SE : (List ((Nat → Nat) × zQS))) (x2 : Nat) (x3 : Int32) : f_X11_coupons_l17 N SX SN SK SR SV SG SY SZ SD (n + 1) ST SH SE x2 x3 = kB (20 < x3) (some ((-5), ST, SH, SE)) (kD (f_X10_start N ST SH SN SD) (fun S_6 S_7 => kL (tSI S_6 4 x3) (fun ST_9 => kD4 (f_X10_sleepsAt N ST_9 S_7 SD SE (some x2) (some x2)) (fun r10 S_11 S_12 S_13 => kB (r10 = (-5)) (kL (x3 + 1) (fun v16 => (f_X11_coupons_l17 N SX SN SK SR SV SG SY SZ SD n) S_11 S_12 S_13 x2 v16)) (some (x3, S_11, S_12, S_13)))))) := rfl
noncomputable def f_X11_coupons (N : Nat) (SX : zRS) (SN : zHS) (SK : zHS) (ST : zTS) (SH : zHS) (SR : zRS) (SV : (Nat → Nat → Int64)) (SG : (Nat → Int32)) (SY : (Nat → Int32)) (SZ : (Nat → Int32)) (SD : (List (Nat × zPS))) (SE : (List ((Nat → Nat) × zQS))) (a1 : Int32) : Option (Int32 × zTS × zHS × ((List ((Nat → Nat) × zQS)))) := kC (f_X1_person SN a1) (fun r1 => kN r1 (some ((-1), ST, SH, SE)) (fun w3 => f_X11_coupons_l17 N SX SN SK SR SV SG SY SZ SD N ST SH SE w3 0))
theorem wv_X11_coupons : zWV RX11 yX11_coupons cX11_coupons 4 (some .int) 1 := ⟨wd_38_10, wd_38_11, wd_1_2, wd_38_12, by decide +kernel⟩
def rm_X11_coupons : Room := { frames := 7, cells := 0, slots := 0, locals := 193 }
set_option maxHeartbeats 4000000 in
set_option maxRecDepth 100000 in
theorem c_X11_coupons {l : Launch} {G : va_G} {ct : Nat → ClassId} {aX : Nat → Nat} {aN : Nat → Nat} {aK : Nat → Nat} {aT : Nat → Nat} {aH : Nat → Nat} {aR : Nat → Nat} {aV : Nat → Nat} {gG : Nat} {gY : Nat} {gZ : Nat} {N : Nat} {SX : zRS} {SN : zHS} {SK : zHS} {ST : zTS} {SH : zHS} {SR : zRS} {SV : (Nat → Nat → Int64)} {SG : (Nat → Int32)} {SY : (Nat → Int32)} {SZ : (Nat → Int32)} {SD : (List (Nat × zPS))} {SE : (List ((Nat → Nat) × zQS))} {a1 : Int32} {r0 : Int32} {OT : zTS} {OH : zHS} {OE : (List ((Nat → Nat) × zQS))} (hf : f_X11_coupons N SX SN SK ST SH SR SV SG SY SZ SD SE a1 = some (r0, OT, OH, OE)) : zC l yX11_coupons cX11_coupons 4 (some .int) rm_X11_coupons G ct [.ref (aX 200), .int a1] [wX aX (aN 200) (aK 200) (aT 200) (aR 200) (aV 6) gG gY gZ ct SX, wH aN ct SN, wH aK ct SK, wT aT (aH 200) ct ST, wH aH ct SH, wR aR ct SR, wV aV ct SV, wA gG 21 ct SG, wA gY 5 ct SY, wA gZ 5 ct SZ, wDp gG SD, wDh ct SE] [wX aX (aN 200) (aK 200) (aT 200) (aR 200) (aV 6) gG gY gZ ct SX, wH aN ct SN, wH aK ct SK, wT aT (aH 200) ct OT, wH aH ct OH, wR aR ct SR, wV aV ct SV, wA gG 21 ct SG, wA gY 5 ct SY, wA gZ 5 ct SZ, wDp gG SD, wDh ct OE] (some (.int r0)) 0 0 := by
  refine z_enter (own := RX11) (lv := [(0, .ref (aX 200)), (1, .int a1)]) (by decide) rfl (Nat.le_of_ble_eq_true rfl) rfl ?_
  intro p e s m args below meth c A E hr hnm
  have L17 : ∀ (n17 : Nat) (ST : zTS) (SH : zHS) (SE : (List ((Nat → Nat) × zQS))) (x2 : Nat) (x3 : Int32), f_X11_coupons_l17 N SX SN SK SR SV SG SY SZ SD n17 ST SH SE x2 x3 = some (r0, OT, OH, OE) → zJ p l e rm_X11_coupons s m args below meth c (zQ G ct (some (.int r0)) [wX aX (aN 200) (aK 200) (aT 200) (aR 200) (aV 6) gG gY gZ ct SX, wH aN ct SN, wH aK ct SK, wT aT (aH 200) ct OT, wH aH ct OH, wR aR ct SR, wV aV ct SV, wA gG 21 ct SG, wA gY 5 ct SY, wA gZ 5 ct SZ, wDp gG SD, wDh ct OE] A below args s 0 0) A G 4 0 0 [wX aX (aN 200) (aK 200) (aT 200) (aR 200) (aV 6) gG gY gZ ct SX, wH aN ct SN, wH aK ct SK, wT aT (aH 200) ct ST, wH aH ct SH, wR aR ct SR, wV aV ct SV, wA gG 21 ct SG, wA gY 5 ct SY, wA gZ 5 ct SZ, wDp gG SD, wDh ct SE] [(0, .ref (aX 200)), (2, .ref x2), (3, .int x3)] 17 [] := by
    intro n17
    induction n17 with
    | zero =>
      intro ST SH SE x2 x3 hf
      rw [f_X11_coupons_l17_z] at hf
      cases hf
    | succ n17 ih17 =>
      intro ST SH SE x2 x3 hf
      rw [f_X11_coupons_l17_s] at hf
      refine z_iload_n (pc := 17) (k0 := 2) E dX11_coupons_17 rfl rfl ?_
      refine z_bipush (pc := 18) (v := 20) E dX11_coupons_18 (by decide) ?_
      refine z_icmp_gt (pc := 20) (tgt := 64) E dX11_coupons_20 (by decide) (fun c5 => ?_) (fun c5 => ?_)
      · have hf := kB_t hf c5
        refine z_bipush (pc := 64) (v := (-5)) E dX11_coupons_64 (by decide) ?_
        cases hf
        exact z_iret E hr dX11_coupons_66
      · have hf := kB_f hf c5
        refine z_aload_n (pc := 23) (k0 := 0) E dX11_coupons_23 rfl rfl ?_
        refine gX_2 (pc := 24) (i := 0) E rfl wd_1_21 dX11_coupons_24 ?_
        refine z_aload_n (pc := 27) (k0 := 0) E dX11_coupons_27 rfl rfl ?_
        refine gX_0 (pc := 28) (i := 0) E rfl wd_1_16 dX11_coupons_28 ?_
        obtain ⟨S_6, S_7, h8, hf⟩ := kD_e hf
        refine z_callV0 (pc := 31) (is := [3, 4, 1, 10]) (n := 1) (As := [.ref (aN 200)]) (st := []) (st' := []) (C2 := [wX aX (aN 200) (aK 200) (aT 200) (aR 200) (aV 6) gG gY gZ ct SX, wH aN ct SN, wH aK ct SK, wT aT (aH 200) ct S_6, wH aH ct S_7, wR aR ct SR, wV aV ct SV, wA gG 21 ct SG, wA gY 5 ct SY, wA gZ 5 ct SZ, wDp gG SD, wDh ct SE]) E (c_X10_start (l := l) (G := G) (ct := ct) (aT := aT) (aH := aH) (aK := aN) (gG := gG) h8) wv_X10_start wd_32_12 ⟨Nat.le_of_ble_eq_true rfl, Nat.le_of_ble_eq_true rfl, Nat.le_of_ble_eq_true rfl, Nat.le_of_ble_eq_true rfl⟩ rfl rfl rfl (by decide) rfl rfl (zrT (j := 0) rfl) rfl (Nat.le_of_ble_eq_true rfl) dX11_coupons_31 rfl rfl ?_
        refine z_aload_n (pc := 34) (k0 := 0) E dX11_coupons_34 rfl rfl ?_
        refine gX_2 (pc := 35) (i := 0) E rfl wd_1_21 dX11_coupons_35 ?_
        refine z_iload_n (pc := 38) (k0 := 2) E dX11_coupons_38 rfl rfl ?_
        obtain ⟨ST_9, e_ST_9, hf⟩ := kL_e hf
        refine pT_4 (pc := 39) (i := 3) (S1 := ST_9) E rfl e_ST_9 wd_38_13 dX11_coupons_39 ?_
        show zJ p l e rm_X11_coupons s m args below meth c (zQ G ct (some (.int r0)) [wX aX (aN 200) (aK 200) (aT 200) (aR 200) (aV 6) gG gY gZ ct SX, wH aN ct SN, wH aK ct SK, wT aT (aH 200) ct OT, wH aH ct OH, wR aR ct SR, wV aV ct SV, wA gG 21 ct SG, wA gY 5 ct SY, wA gZ 5 ct SZ, wDp gG SD, wDh ct OE] A below args s 0 0) A G 4 0 0 [wX aX (aN 200) (aK 200) (aT 200) (aR 200) (aV 6) gG gY gZ ct SX, wH aN ct SN, wH aK ct SK, wT aT (aH 200) ct ST_9, wH aH ct S_7, wR aR ct SR, wV aV ct SV, wA gG 21 ct SG, wA gY 5 ct SY, wA gZ 5 ct SZ, wDp gG SD, wDh ct SE] [(0, .ref (aX 200)), (2, .ref x2), (3, .int x3)] 42 []
        refine z_aload_n (pc := 42) (k0 := 0) E dX11_coupons_42 rfl rfl ?_
        refine gX_2 (pc := 43) (i := 0) E rfl wd_1_21 dX11_coupons_43 ?_
        refine z_aload_n (pc := 46) (k0 := 1) E dX11_coupons_46 rfl rfl ?_
        refine z_aload_n (pc := 47) (k0 := 1) E dX11_coupons_47 rfl rfl ?_
        obtain ⟨r10, S_11, S_12, S_13, h14, hf⟩ := kD4_e hf
        refine z_callV0 (pc := 48) (is := [3, 4, 10, 11]) (n := 2) (As := [.ref x2, .ref x2]) (st := []) (st' := [.int r10]) (C2 := [wX aX (aN 200) (aK 200) (aT 200) (aR 200) (aV 6) gG gY gZ ct SX, wH aN ct SN, wH aK ct SK, wT aT (aH 200) ct S_11, wH aH ct S_12, wR aR ct SR, wV aV ct SV, wA gG 21 ct SG, wA gY 5 ct SY, wA gZ 5 ct SZ, wDp gG SD, wDh ct S_13]) E (c_X10_sleepsAt (l := l) (G := G) (ct := ct) (aT := aT) (aH := aH) (gG := gG) h14) wv_X10_sleepsAt wd_34_21 ⟨Nat.le_of_ble_eq_true rfl, Nat.le_of_ble_eq_true rfl, Nat.le_of_ble_eq_true rfl, Nat.le_of_ble_eq_true rfl⟩ rfl rfl rfl (by decide) rfl rfl (zrT (j := 0) rfl) rfl (Nat.le_of_ble_eq_true rfl) dX11_coupons_48 rfl rfl ?_
        refine z_bipush (pc := 51) (v := (-5)) E dX11_coupons_51 (by decide) ?_
        refine z_icmp_eq (pc := 53) (tgt := 58) E dX11_coupons_53 (by decide) (fun c15 => ?_) (fun c15 => ?_)
        · have hf := kB_t hf c15
          obtain ⟨v16, e_v16, hf⟩ := kL_e hf
          refine z_iinc (pc := 58) (k0 := 2) (v := v16) (lv' := [(3, .int v16), (0, .ref (aX 200)), (2, .ref x2)]) E dX11_coupons_58 rfl e_v16 (by decide) rfl ?_
          refine z_goto (pc := 61) (tgt := 17) E dX11_coupons_61 (by decide) ?_
          refine z_sub [1, 2, 0] (lv' := [(0, .ref (aX 200)), (2, .ref x2), (3, .int v16)]) rfl ?_
          exact ih17 S_11 S_12 S_13 x2 v16 hf
        · have hf := kB_f hf c15
          refine z_iload_n (pc := 56) (k0 := 2) E dX11_coupons_56 rfl rfl ?_
          cases hf
          exact z_iret E hr dX11_coupons_57
  unfold f_X11_coupons at hf
  refine z_aload_n (pc := 0) (k0 := 0) E dX11_coupons_0 rfl rfl ?_
  refine gX_0 (pc := 1) (i := 0) E rfl wd_1_16 dX11_coupons_1 ?_
  refine z_iload_n (pc := 4) (k0 := 1) E dX11_coupons_4 rfl rfl ?_
  obtain ⟨r1, h2, hf⟩ := kC_e hf
  refine z_callV0 (pc := 5) (is := [1]) (n := 1) (As := [.int a1]) (st := []) (st' := [va_rf r1]) (C2 := [wX aX (aN 200) (aK 200) (aT 200) (aR 200) (aV 6) gG gY gZ ct SX, wH aN ct SN, wH aK ct SK, wT aT (aH 200) ct ST, wH aH ct SH, wR aR ct SR, wV aV ct SV, wA gG 21 ct SG, wA gY 5 ct SY, wA gZ 5 ct SZ, wDp gG SD, wDh ct SE]) E (c_X1_person (l := l) (G := G) (ct := ct) (aH := aN) h2) wv_X1_person wd_11_10 ⟨Nat.le_of_ble_eq_true rfl, Nat.le_of_ble_eq_true rfl, Nat.le_of_ble_eq_true rfl, Nat.le_of_ble_eq_true rfl⟩ rfl rfl rfl (by decide) rfl rfl (zrH (j := 0) rfl) rfl (Nat.le_of_ble_eq_true rfl) dX11_coupons_5 rfl rfl ?_
  refine z_qstore_n (pc := 8) (lv' := [(2, va_rf r1), (0, .ref (aX 200)), (1, .int a1)]) E dX11_coupons_8 rfl (by decide) rfl ?_
  refine z_qload_n (pc := 9) (k0 := 0) E dX11_coupons_9 rfl rfl ?_
  refine z_ifnonnull (pc := 10) (tgt := 15) E dX11_coupons_10 (by decide) (fun w3 e4 => ?_) (fun e4 => ?_)
  · have hf := kN_s hf e4
    have hf_e4 := hf
    subst e4
    have hf := hf_e4
    refine z_iconst (pc := 15) (v := 0) E dX11_coupons_15 (by decide) ?_
    refine z_istore_n (pc := 16) (lv' := [(3, .int 0), (2, .ref w3), (0, .ref (aX 200)), (1, .int a1)]) E dX11_coupons_16 rfl (by decide) rfl ?_
    refine z_sub [2, 1, 0] (lv' := [(0, .ref (aX 200)), (2, .ref w3), (3, .int 0)]) rfl ?_
    exact L17 N ST SH SE w3 0 hf
  · have hf := kN_n hf e4
    refine z_iconst (pc := 13) (v := (-1)) E dX11_coupons_13 (by decide) ?_
    cases hf
    exact z_iret E hr dX11_coupons_14
noncomputable def f_X11_evenings_b108 (N : Nat) (SX : zRS) (SN : zHS) (SK : zHS) (SR : zRS) (SV : (Nat → Nat → Int64)) (SG : (Nat → Int32)) (SY : (Nat → Int32)) (SZ : (Nat → Int32)) (SD : (List (Nat × zPS))) (k60 : zTS → zHS → ((List ((Nat → Nat) × zQS))) → Int32 → Int32 → Nat → Int32 → Int32 → Int32 → Option (Int32 × zTS × zHS × ((List ((Nat → Nat) × zQS))))) (ST : zTS) (SH : zHS) (SE : (List ((Nat → Nat) × zQS))) (x2 : Int32) (x3 : Int32) (x4 : Nat) (x5 : Int32) (x6 : Int32) (x7 : Int32) : Option (Int32 × zTS × zHS × ((List ((Nat → Nat) × zQS)))) := kC (f_X1_sleepOver SH) (fun S_25 => kL (tSI ST 3 0) (fun ST_27 => kL (x7 + 1) (fun v28 => k60 ST_27 S_25 SE x2 x3 x4 x5 x6 v28)))
noncomputable def f_X11_evenings_l60 (N : Nat) (SX : zRS) (SN : zHS) (SK : zHS) (SR : zRS) (SV : (Nat → Nat → Int64)) (SG : (Nat → Int32)) (SY : (Nat → Int32)) (SZ : (Nat → Int32)) (SD : (List (Nat × zPS))) : Nat → zTS → zHS → ((List ((Nat → Nat) × zQS))) → Int32 → Int32 → Nat → Int32 → Int32 → Int32 → Option (Int32 × zTS × zHS × ((List ((Nat → Nat) × zQS)))) := fun n => Nat.rec (motive := fun _ => zTS → zHS → ((List ((Nat → Nat) × zQS))) → Int32 → Int32 → Nat → Int32 → Int32 → Int32 → Option (Int32 × zTS × zHS × ((List ((Nat → Nat) × zQS))))) (fun _ _ _ _ _ _ _ _ _ => none) (fun _ ih ST SH SE x2 x3 x4 x5 x6 x7 => kB (x2 ≤ x7) (kB (x3 = 0) (some (x5, ST, SH, SE)) (kB (x3 = 1) (some (x6, ST, SH, SE)) (kC (f_X1_habits N SH) (fun r15 => some (r15, ST, SH, SE))))) (kD3 (f_X10_run N ST SH SD SE (some x4) (some x4) 60) (fun S_17 S_18 S_19 => kC (f_X1_how S_18) (fun r21 => kB (r21 = 2) (kL (x6 + 1) (fun v24 => f_X11_evenings_b108 N SX SN SK SR SV SG SY SZ SD ih S_17 S_18 S_19 x2 x3 x4 (S_18.1 11) v24 x7)) (f_X11_evenings_b108 N SX SN SK SR SV SG SY SZ SD ih S_17 S_18 S_19 x2 x3 x4 (S_18.1 11) x6 x7))))) n
theorem f_X11_evenings_l60_z (N : Nat) (SX : zRS) (SN : zHS) (SK : zHS) (SR : zRS) (SV : (Nat → Nat → Int64)) (SG : (Nat → Int32)) (SY : (Nat → Int32)) (SZ : (Nat → Int32)) (SD : (List (Nat × zPS))) (ST : zTS) (SH : zHS) (SE : (List ((Nat → Nat) × zQS))) (x2 : Int32) (x3 : Int32) (x4 : Nat) (x5 : Int32) (x6 : Int32) (x7 : Int32) : f_X11_evenings_l60 N SX SN SK SR SV SG SY SZ SD 0 ST SH SE x2 x3 x4 x5 x6 x7 = none := rfl
theorem f_X11_evenings_l60_s (N : Nat) (SX : zRS) (SN : zHS) (SK : zHS) (SR : zRS) (SV : (Nat → Nat → Int64)) (SG : (Nat → Int32)) (SY : (Nat → Int32)) (SZ : (Nat → Int32)) (SD : (List (Nat × zPS))) (n : Nat) (ST : zTS) (SH : zHS) (SE : (List ((Nat → Nat) × zQS))) (x2 : Int32) (x3 : Int32) (x4 : Nat) (x5 : Int32) (x6 : Int32) (x7 : Int32) : f_X11_evenings_l60 N SX SN SK SR SV SG SY SZ SD (n + 1) ST SH SE x2 x3 x4 x5 x6 x7 = kB (x2 ≤ x7) (kB (x3 = 0) (some (x5, ST, SH, SE)) (kB (x3 = 1) (some (x6, ST, SH, SE)) (kC (f_X1_habits N SH) (fun r15 => some (r15, ST, SH, SE))))) (kD3 (f_X10_run N ST SH SD SE (some x4) (some x4) 60) (fun S_17 S_18 S_19 => kC (f_X1_how S_18) (fun r21 => kB (r21 = 2) (kL (x6 + 1) (fun v24 => f_X11_evenings_b108 N SX SN SK SR SV SG SY SZ SD (f_X11_evenings_l60 N SX SN SK SR SV SG SY SZ SD n) S_17 S_18 S_19 x2 x3 x4 (S_18.1 11) v24 x7)) (f_X11_evenings_b108 N SX SN SK SR SV SG SY SZ SD (f_X11_evenings_l60 N SX SN SK SR SV SG SY SZ SD n) S_17 S_18 S_19 x2 x3 x4 (S_18.1 11) x6 x7)))) := rfl
noncomputable def f_X11_evenings (N : Nat) (SX : zRS) (SN : zHS) (SK : zHS) (ST : zTS) (SH : zHS) (SR : zRS) (SV : (Nat → Nat → Int64)) (SG : (Nat → Int32)) (SY : (Nat → Int32)) (SZ : (Nat → Int32)) (SD : (List (Nat × zPS))) (SE : (List ((Nat → Nat) × zQS))) (a1 : Int32) (a2 : Int32) (a3 : Int32) : Option (Int32 × zTS × zHS × ((List ((Nat → Nat) × zQS)))) := kC (f_X1_person SN a1) (fun r1 => kN r1 (some ((-1), ST, SH, SE)) (fun w3 => kB (a3 < 0) (some ((-1), ST, SH, SE)) (kB (a3 ≤ 2) (kB (a2 < 1) (some ((-2), ST, SH, SE)) (kB (a2 ≤ 10) (kD (f_X10_start N ST SH SN SD) (fun S_9 S_10 => f_X11_evenings_l60 N SX SN SK SR SV SG SY SZ SD N S_9 S_10 SE a2 a3 w3 0 0 0)) (some ((-2), ST, SH, SE)))) (some ((-1), ST, SH, SE)))))
theorem wv_X11_evenings : zWV RX11 yX11_evenings cX11_evenings 8 (some .int) 3 := ⟨wd_38_19, wd_38_20, wd_1_2, wd_38_21, by decide +kernel⟩
def rm_X11_evenings : Room := { frames := 6, cells := 0, slots := 0, locals := 171 }
set_option maxHeartbeats 4000000 in
set_option maxRecDepth 100000 in
theorem c_X11_evenings {l : Launch} {G : va_G} {ct : Nat → ClassId} {aX : Nat → Nat} {aN : Nat → Nat} {aK : Nat → Nat} {aT : Nat → Nat} {aH : Nat → Nat} {aR : Nat → Nat} {aV : Nat → Nat} {gG : Nat} {gY : Nat} {gZ : Nat} {N : Nat} {SX : zRS} {SN : zHS} {SK : zHS} {ST : zTS} {SH : zHS} {SR : zRS} {SV : (Nat → Nat → Int64)} {SG : (Nat → Int32)} {SY : (Nat → Int32)} {SZ : (Nat → Int32)} {SD : (List (Nat × zPS))} {SE : (List ((Nat → Nat) × zQS))} {a1 : Int32} {a2 : Int32} {a3 : Int32} {r0 : Int32} {OT : zTS} {OH : zHS} {OE : (List ((Nat → Nat) × zQS))} (hf : f_X11_evenings N SX SN SK ST SH SR SV SG SY SZ SD SE a1 a2 a3 = some (r0, OT, OH, OE)) : zC l yX11_evenings cX11_evenings 8 (some .int) rm_X11_evenings G ct [.ref (aX 200), .int a1, .int a2, .int a3] [wX aX (aN 200) (aK 200) (aT 200) (aR 200) (aV 6) gG gY gZ ct SX, wH aN ct SN, wH aK ct SK, wT aT (aH 200) ct ST, wH aH ct SH, wR aR ct SR, wV aV ct SV, wA gG 21 ct SG, wA gY 5 ct SY, wA gZ 5 ct SZ, wDp gG SD, wDh ct SE] [wX aX (aN 200) (aK 200) (aT 200) (aR 200) (aV 6) gG gY gZ ct SX, wH aN ct SN, wH aK ct SK, wT aT (aH 200) ct OT, wH aH ct OH, wR aR ct SR, wV aV ct SV, wA gG 21 ct SG, wA gY 5 ct SY, wA gZ 5 ct SZ, wDp gG SD, wDh ct OE] (some (.int r0)) 0 0 := by
  refine z_enter (own := RX11) (lv := [(0, .ref (aX 200)), (1, .int a1), (2, .int a2), (3, .int a3)]) (by decide) rfl (Nat.le_of_ble_eq_true rfl) rfl ?_
  intro p e s m args below meth c A E hr hnm
  have L60 : ∀ (n60 : Nat) (ST : zTS) (SH : zHS) (SE : (List ((Nat → Nat) × zQS))) (x2 : Int32) (x3 : Int32) (x4 : Nat) (x5 : Int32) (x6 : Int32) (x7 : Int32), f_X11_evenings_l60 N SX SN SK SR SV SG SY SZ SD n60 ST SH SE x2 x3 x4 x5 x6 x7 = some (r0, OT, OH, OE) → zJ p l e rm_X11_evenings s m args below meth c (zQ G ct (some (.int r0)) [wX aX (aN 200) (aK 200) (aT 200) (aR 200) (aV 6) gG gY gZ ct SX, wH aN ct SN, wH aK ct SK, wT aT (aH 200) ct OT, wH aH ct OH, wR aR ct SR, wV aV ct SV, wA gG 21 ct SG, wA gY 5 ct SY, wA gZ 5 ct SZ, wDp gG SD, wDh ct OE] A below args s 0 0) A G 8 0 0 [wX aX (aN 200) (aK 200) (aT 200) (aR 200) (aV 6) gG gY gZ ct SX, wH aN ct SN, wH aK ct SK, wT aT (aH 200) ct ST, wH aH ct SH, wR aR ct SR, wV aV ct SV, wA gG 21 ct SG, wA gY 5 ct SY, wA gZ 5 ct SZ, wDp gG SD, wDh ct SE] [(0, .ref (aX 200)), (2, .int x2), (3, .int x3), (4, .ref x4), (5, .int x5), (6, .int x6), (7, .int x7)] 60 [] := by
    intro n60
    induction n60 with
    | zero =>
      intro ST SH SE x2 x3 x4 x5 x6 x7 hf
      rw [f_X11_evenings_l60_z] at hf
      cases hf
    | succ n60 ih60 =>
      have B108 : ∀ (ST : zTS) (SH : zHS) (SE : (List ((Nat → Nat) × zQS))) (x2 : Int32) (x3 : Int32) (x4 : Nat) (x5 : Int32) (x6 : Int32) (x7 : Int32), f_X11_evenings_b108 N SX SN SK SR SV SG SY SZ SD (f_X11_evenings_l60 N SX SN SK SR SV SG SY SZ SD n60) ST SH SE x2 x3 x4 x5 x6 x7 = some (r0, OT, OH, OE) → zJ p l e rm_X11_evenings s m args below meth c (zQ G ct (some (.int r0)) [wX aX (aN 200) (aK 200) (aT 200) (aR 200) (aV 6) gG gY gZ ct SX, wH aN ct SN, wH aK ct SK, wT aT (aH 200) ct OT, wH aH ct OH, wR aR ct SR, wV aV ct SV, wA gG 21 ct SG, wA gY 5 ct SY, wA gZ 5 ct SZ, wDp gG SD, wDh ct OE] A below args s 0 0) A G 8 0 0 [wX aX (aN 200) (aK 200) (aT 200) (aR 200) (aV 6) gG gY gZ ct SX, wH aN ct SN, wH aK ct SK, wT aT (aH 200) ct ST, wH aH ct SH, wR aR ct SR, wV aV ct SV, wA gG 21 ct SG, wA gY 5 ct SY, wA gZ 5 ct SZ, wDp gG SD, wDh ct SE] [(0, .ref (aX 200)), (2, .int x2), (3, .int x3), (4, .ref x4), (5, .int x5), (6, .int x6), (7, .int x7)] 108 [] := by
        intro ST SH SE x2 x3 x4 x5 x6 x7 hf
        unfold f_X11_evenings_b108 at hf
        refine z_aload_n (pc := 108) (k0 := 0) E dX11_evenings_108 rfl rfl ?_
        refine gX_2 (pc := 109) (i := 0) E rfl wd_1_21 dX11_evenings_109 ?_
        refine gT_0 (pc := 112) (i := 3) E rfl wd_32_10 dX11_evenings_112 ?_
        obtain ⟨S_25, h26, hf⟩ := kC_e hf
        refine z_callV0 (pc := 115) (is := [4]) (n := 0) (As := []) (st := []) (st' := []) (C2 := [wX aX (aN 200) (aK 200) (aT 200) (aR 200) (aV 6) gG gY gZ ct SX, wH aN ct SN, wH aK ct SK, wT aT (aH 200) ct ST, wH aH ct S_25, wR aR ct SR, wV aV ct SV, wA gG 21 ct SG, wA gY 5 ct SY, wA gZ 5 ct SZ, wDp gG SD, wDh ct SE]) E (c_X1_sleepOver (l := l) (G := G) (ct := ct) (aH := aH) h26) wv_X1_sleepOver wd_31_8 ⟨Nat.le_of_ble_eq_true rfl, Nat.le_of_ble_eq_true rfl, Nat.le_of_ble_eq_true rfl, Nat.le_of_ble_eq_true rfl⟩ rfl rfl rfl (by decide) rfl rfl (zrH (j := 0) rfl) rfl (Nat.le_of_ble_eq_true rfl) dX11_evenings_115 rfl rfl ?_
        refine z_aload_n (pc := 118) (k0 := 0) E dX11_evenings_118 rfl rfl ?_
        refine gX_2 (pc := 119) (i := 0) E rfl wd_1_21 dX11_evenings_119 ?_
        refine z_iconst (pc := 122) (v := 0) E dX11_evenings_122 (by decide) ?_
        obtain ⟨ST_27, e_ST_27, hf⟩ := kL_e hf
        refine pT_3 (pc := 123) (i := 3) (S1 := ST_27) E rfl e_ST_27 wd_38_22 dX11_evenings_123 ?_
        show zJ p l e rm_X11_evenings s m args below meth c (zQ G ct (some (.int r0)) [wX aX (aN 200) (aK 200) (aT 200) (aR 200) (aV 6) gG gY gZ ct SX, wH aN ct SN, wH aK ct SK, wT aT (aH 200) ct OT, wH aH ct OH, wR aR ct SR, wV aV ct SV, wA gG 21 ct SG, wA gY 5 ct SY, wA gZ 5 ct SZ, wDp gG SD, wDh ct OE] A below args s 0 0) A G 8 0 0 [wX aX (aN 200) (aK 200) (aT 200) (aR 200) (aV 6) gG gY gZ ct SX, wH aN ct SN, wH aK ct SK, wT aT (aH 200) ct ST_27, wH aH ct S_25, wR aR ct SR, wV aV ct SV, wA gG 21 ct SG, wA gY 5 ct SY, wA gZ 5 ct SZ, wDp gG SD, wDh ct SE] [(0, .ref (aX 200)), (2, .int x2), (3, .int x3), (4, .ref x4), (5, .int x5), (6, .int x6), (7, .int x7)] 126 []
        obtain ⟨v28, e_v28, hf⟩ := kL_e hf
        refine z_iinc (pc := 126) (k0 := 6) (v := v28) (lv' := [(7, .int v28), (0, .ref (aX 200)), (2, .int x2), (3, .int x3), (4, .ref x4), (5, .int x5), (6, .int x6)]) E dX11_evenings_126 rfl e_v28 (by decide) rfl ?_
        refine z_goto (pc := 129) (tgt := 60) E dX11_evenings_129 (by decide) ?_
        refine z_sub [1, 2, 3, 4, 5, 6, 0] (lv' := [(0, .ref (aX 200)), (2, .int x2), (3, .int x3), (4, .ref x4), (5, .int x5), (6, .int x6), (7, .int v28)]) rfl ?_
        exact ih60 ST_27 S_25 SE x2 x3 x4 x5 x6 v28 hf
      intro ST SH SE x2 x3 x4 x5 x6 x7 hf
      rw [f_X11_evenings_l60_s] at hf
      refine z_iload (pc := 60) (k0 := 6) E dX11_evenings_60 rfl ?_
      refine z_iload_n (pc := 62) (k0 := 1) E dX11_evenings_62 rfl rfl ?_
      refine z_icmp_ge (pc := 63) (tgt := 132) E dX11_evenings_63 (by decide) (fun c12 => ?_) (fun c12 => ?_)
      · have hf := kB_t hf c12
        refine z_iload_n (pc := 132) (k0 := 2) E dX11_evenings_132 rfl rfl ?_
        refine z_if_ne (pc := 133) (tgt := 139) E dX11_evenings_133 (by decide) (fun c13 => ?_) (fun c13 => ?_)
        · have hf := kB_f hf c13
          refine z_iload_n (pc := 139) (k0 := 2) E dX11_evenings_139 rfl rfl ?_
          refine z_iconst (pc := 140) (v := 1) E dX11_evenings_140 (by decide) ?_
          refine z_icmp_ne (pc := 141) (tgt := 149) E dX11_evenings_141 (by decide) (fun c14 => ?_) (fun c14 => ?_)
          · have hf := kB_f hf c14
            refine z_aload_n (pc := 149) (k0 := 0) E dX11_evenings_149 rfl rfl ?_
            refine gX_2 (pc := 150) (i := 0) E rfl wd_1_21 dX11_evenings_150 ?_
            refine gT_0 (pc := 153) (i := 3) E rfl wd_32_10 dX11_evenings_153 ?_
            obtain ⟨r15, h16, hf⟩ := kC_e hf
            refine z_callV0 (pc := 156) (is := [4]) (n := 0) (As := []) (st := []) (st' := [.int r15]) (C2 := [wX aX (aN 200) (aK 200) (aT 200) (aR 200) (aV 6) gG gY gZ ct SX, wH aN ct SN, wH aK ct SK, wT aT (aH 200) ct ST, wH aH ct SH, wR aR ct SR, wV aV ct SV, wA gG 21 ct SG, wA gY 5 ct SY, wA gZ 5 ct SZ, wDp gG SD, wDh ct SE]) E (c_X1_habits (l := l) (G := G) (ct := ct) (aH := aH) h16) wv_X1_habits wd_38_23 ⟨Nat.le_of_ble_eq_true rfl, Nat.le_of_ble_eq_true rfl, Nat.le_of_ble_eq_true rfl, Nat.le_of_ble_eq_true rfl⟩ rfl rfl rfl (by decide) rfl rfl (zrH (j := 0) rfl) rfl (Nat.le_of_ble_eq_true rfl) dX11_evenings_156 rfl rfl ?_
            cases hf
            exact z_iret E hr dX11_evenings_159
          · have hf := kB_t hf c14
            refine z_iload (pc := 144) (k0 := 5) E dX11_evenings_144 rfl ?_
            refine z_goto (pc := 146) (tgt := 159) E dX11_evenings_146 (by decide) ?_
            cases hf
            exact z_iret E hr dX11_evenings_159
        · have hf := kB_t hf c13
          refine z_iload (pc := 136) (k0 := 4) E dX11_evenings_136 rfl ?_
          cases hf
          exact z_iret E hr dX11_evenings_138
      · have hf := kB_f hf c12
        refine z_aload_n (pc := 66) (k0 := 0) E dX11_evenings_66 rfl rfl ?_
        refine gX_2 (pc := 67) (i := 0) E rfl wd_1_21 dX11_evenings_67 ?_
        refine z_aload (pc := 70) (k0 := 3) E dX11_evenings_70 rfl ?_
        refine z_aload (pc := 72) (k0 := 3) E dX11_evenings_72 rfl ?_
        refine z_bipush (pc := 74) (v := 60) E dX11_evenings_74 (by decide) ?_
        obtain ⟨S_17, S_18, S_19, h20, hf⟩ := kD3_e hf
        refine z_callV0 (pc := 76) (is := [3, 4, 10, 11]) (n := 3) (As := [.ref x4, .ref x4, .int 60]) (st := []) (st' := []) (C2 := [wX aX (aN 200) (aK 200) (aT 200) (aR 200) (aV 6) gG gY gZ ct SX, wH aN ct SN, wH aK ct SK, wT aT (aH 200) ct S_17, wH aH ct S_18, wR aR ct SR, wV aV ct SV, wA gG 21 ct SG, wA gY 5 ct SY, wA gZ 5 ct SZ, wDp gG SD, wDh ct S_19]) E (c_X10_run (l := l) (G := G) (ct := ct) (aT := aT) (aH := aH) (gG := gG) h20) wv_X10_run wd_33_7 ⟨Nat.le_of_ble_eq_true rfl, Nat.le_of_ble_eq_true rfl, Nat.le_of_ble_eq_true rfl, Nat.le_of_ble_eq_true rfl⟩ rfl rfl rfl (by decide) rfl rfl (zrT (j := 0) rfl) rfl (Nat.le_of_ble_eq_true rfl) dX11_evenings_76 rfl rfl ?_
        refine z_aload_n (pc := 79) (k0 := 0) E dX11_evenings_79 rfl rfl ?_
        refine gX_2 (pc := 80) (i := 0) E rfl wd_1_21 dX11_evenings_80 ?_
        refine gT_0 (pc := 83) (i := 3) E rfl wd_32_10 dX11_evenings_83 ?_
        refine gH_11 (pc := 86) (i := 4) E rfl wd_28_18 dX11_evenings_86 ?_
        refine z_istore (pc := 89) (lv' := [(5, .int (S_18.1 11)), (0, .ref (aX 200)), (2, .int x2), (3, .int x3), (4, .ref x4), (6, .int x6), (7, .int x7)]) E dX11_evenings_89 (by decide) rfl ?_
        refine z_aload_n (pc := 91) (k0 := 1) E dX11_evenings_91 rfl rfl ?_
        refine gX_2 (pc := 92) (i := 0) E rfl wd_1_21 dX11_evenings_92 ?_
        refine gT_0 (pc := 95) (i := 3) E rfl wd_32_10 dX11_evenings_95 ?_
        obtain ⟨r21, h22, hf⟩ := kC_e hf
        refine z_callV0 (pc := 98) (is := [4]) (n := 0) (As := []) (st := []) (st' := [.int r21]) (C2 := [wX aX (aN 200) (aK 200) (aT 200) (aR 200) (aV 6) gG gY gZ ct SX, wH aN ct SN, wH aK ct SK, wT aT (aH 200) ct S_17, wH aH ct S_18, wR aR ct SR, wV aV ct SV, wA gG 21 ct SG, wA gY 5 ct SY, wA gZ 5 ct SZ, wDp gG SD, wDh ct S_19]) E (c_X1_how (l := l) (G := G) (ct := ct) (aH := aH) h22) wv_X1_how wd_29_1 ⟨Nat.le_of_ble_eq_true rfl, Nat.le_of_ble_eq_true rfl, Nat.le_of_ble_eq_true rfl, Nat.le_of_ble_eq_true rfl⟩ rfl rfl rfl (by decide) rfl rfl (zrH (j := 0) rfl) rfl (Nat.le_of_ble_eq_true rfl) dX11_evenings_98 rfl rfl ?_
        refine z_iconst (pc := 101) (v := 2) E dX11_evenings_101 (by decide) ?_
        refine z_icmp_ne (pc := 102) (tgt := 108) E dX11_evenings_102 (by decide) (fun c23 => ?_) (fun c23 => ?_)
        · have hf := kB_f hf c23
          refine z_sub [1, 2, 3, 4, 0, 5, 6] (lv' := [(0, .ref (aX 200)), (2, .int x2), (3, .int x3), (4, .ref x4), (5, .int (S_18.1 11)), (6, .int x6), (7, .int x7)]) rfl ?_
          exact B108 S_17 S_18 S_19 x2 x3 x4 (S_18.1 11) x6 x7 hf
        · have hf := kB_t hf c23
          obtain ⟨v24, e_v24, hf⟩ := kL_e hf
          refine z_iinc (pc := 105) (k0 := 5) (v := v24) (lv' := [(6, .int v24), (5, .int (S_18.1 11)), (0, .ref (aX 200)), (2, .int x2), (3, .int x3), (4, .ref x4), (7, .int x7)]) E dX11_evenings_105 rfl e_v24 (by decide) rfl ?_
          refine z_sub [2, 3, 4, 5, 1, 0, 6] (lv' := [(0, .ref (aX 200)), (2, .int x2), (3, .int x3), (4, .ref x4), (5, .int (S_18.1 11)), (6, .int v24), (7, .int x7)]) rfl ?_
          exact B108 S_17 S_18 S_19 x2 x3 x4 (S_18.1 11) v24 x7 hf
  unfold f_X11_evenings at hf
  refine z_aload_n (pc := 0) (k0 := 0) E dX11_evenings_0 rfl rfl ?_
  refine gX_0 (pc := 1) (i := 0) E rfl wd_1_16 dX11_evenings_1 ?_
  refine z_iload_n (pc := 4) (k0 := 1) E dX11_evenings_4 rfl rfl ?_
  obtain ⟨r1, h2, hf⟩ := kC_e hf
  refine z_callV0 (pc := 5) (is := [1]) (n := 1) (As := [.int a1]) (st := []) (st' := [va_rf r1]) (C2 := [wX aX (aN 200) (aK 200) (aT 200) (aR 200) (aV 6) gG gY gZ ct SX, wH aN ct SN, wH aK ct SK, wT aT (aH 200) ct ST, wH aH ct SH, wR aR ct SR, wV aV ct SV, wA gG 21 ct SG, wA gY 5 ct SY, wA gZ 5 ct SZ, wDp gG SD, wDh ct SE]) E (c_X1_person (l := l) (G := G) (ct := ct) (aH := aN) h2) wv_X1_person wd_11_10 ⟨Nat.le_of_ble_eq_true rfl, Nat.le_of_ble_eq_true rfl, Nat.le_of_ble_eq_true rfl, Nat.le_of_ble_eq_true rfl⟩ rfl rfl rfl (by decide) rfl rfl (zrH (j := 0) rfl) rfl (Nat.le_of_ble_eq_true rfl) dX11_evenings_5 rfl rfl ?_
  refine z_qstore (pc := 8) (lv' := [(4, va_rf r1), (0, .ref (aX 200)), (1, .int a1), (2, .int a2), (3, .int a3)]) E dX11_evenings_8 (by decide) rfl ?_
  refine z_qload (pc := 10) (k0 := 0) E dX11_evenings_10 rfl ?_
  refine z_ifnull (pc := 12) (tgt := 24) E dX11_evenings_12 (by decide) (fun e4 => ?_) (fun w3 e4 => ?_)
  · have hf := kN_n hf e4
    refine z_iconst (pc := 24) (v := (-1)) E dX11_evenings_24 (by decide) ?_
    cases hf
    exact z_iret E hr dX11_evenings_25
  · have hf := kN_s hf e4
    have hf_e4 := hf
    subst e4
    have hf := hf_e4
    refine z_iload_n (pc := 15) (k0 := 4) E dX11_evenings_15 rfl rfl ?_
    refine z_if_lt (pc := 16) (tgt := 24) E dX11_evenings_16 (by decide) (fun c5 => ?_) (fun c5 => ?_)
    · have hf := kB_t hf c5
      refine z_iconst (pc := 24) (v := (-1)) E dX11_evenings_24 (by decide) ?_
      cases hf
      exact z_iret E hr dX11_evenings_25
    · have hf := kB_f hf c5
      refine z_iload_n (pc := 19) (k0 := 4) E dX11_evenings_19 rfl rfl ?_
      refine z_iconst (pc := 20) (v := 2) E dX11_evenings_20 (by decide) ?_
      refine z_icmp_le (pc := 21) (tgt := 26) E dX11_evenings_21 (by decide) (fun c6 => ?_) (fun c6 => ?_)
      · have hf := kB_t hf c6
        refine z_iload_n (pc := 26) (k0 := 3) E dX11_evenings_26 rfl rfl ?_
        refine z_iconst (pc := 27) (v := 1) E dX11_evenings_27 (by decide) ?_
        refine z_icmp_lt (pc := 28) (tgt := 37) E dX11_evenings_28 (by decide) (fun c7 => ?_) (fun c7 => ?_)
        · have hf := kB_t hf c7
          refine z_bipush (pc := 37) (v := (-2)) E dX11_evenings_37 (by decide) ?_
          cases hf
          exact z_iret E hr dX11_evenings_39
        · have hf := kB_f hf c7
          refine z_iload_n (pc := 31) (k0 := 3) E dX11_evenings_31 rfl rfl ?_
          refine z_bipush (pc := 32) (v := 10) E dX11_evenings_32 (by decide) ?_
          refine z_icmp_le (pc := 34) (tgt := 40) E dX11_evenings_34 (by decide) (fun c8 => ?_) (fun c8 => ?_)
          · have hf := kB_t hf c8
            refine z_iconst (pc := 40) (v := 0) E dX11_evenings_40 (by decide) ?_
            refine z_istore (pc := 41) (lv' := [(5, .int 0), (4, .ref w3), (0, .ref (aX 200)), (1, .int a1), (2, .int a2), (3, .int a3)]) E dX11_evenings_41 (by decide) rfl ?_
            refine z_iconst (pc := 43) (v := 0) E dX11_evenings_43 (by decide) ?_
            refine z_istore (pc := 44) (lv' := [(6, .int 0), (5, .int 0), (4, .ref w3), (0, .ref (aX 200)), (1, .int a1), (2, .int a2), (3, .int a3)]) E dX11_evenings_44 (by decide) rfl ?_
            refine z_aload_n (pc := 46) (k0 := 3) E dX11_evenings_46 rfl rfl ?_
            refine gX_2 (pc := 47) (i := 0) E rfl wd_1_21 dX11_evenings_47 ?_
            refine z_aload_n (pc := 50) (k0 := 3) E dX11_evenings_50 rfl rfl ?_
            refine gX_0 (pc := 51) (i := 0) E rfl wd_1_16 dX11_evenings_51 ?_
            obtain ⟨S_9, S_10, h11, hf⟩ := kD_e hf
            refine z_callV0 (pc := 54) (is := [3, 4, 1, 10]) (n := 1) (As := [.ref (aN 200)]) (st := []) (st' := []) (C2 := [wX aX (aN 200) (aK 200) (aT 200) (aR 200) (aV 6) gG gY gZ ct SX, wH aN ct SN, wH aK ct SK, wT aT (aH 200) ct S_9, wH aH ct S_10, wR aR ct SR, wV aV ct SV, wA gG 21 ct SG, wA gY 5 ct SY, wA gZ 5 ct SZ, wDp gG SD, wDh ct SE]) E (c_X10_start (l := l) (G := G) (ct := ct) (aT := aT) (aH := aH) (aK := aN) (gG := gG) h11) wv_X10_start wd_32_12 ⟨Nat.le_of_ble_eq_true rfl, Nat.le_of_ble_eq_true rfl, Nat.le_of_ble_eq_true rfl, Nat.le_of_ble_eq_true rfl⟩ rfl rfl rfl (by decide) rfl rfl (zrT (j := 0) rfl) rfl (Nat.le_of_ble_eq_true rfl) dX11_evenings_54 rfl rfl ?_
            refine z_iconst (pc := 57) (v := 0) E dX11_evenings_57 (by decide) ?_
            refine z_istore (pc := 58) (lv' := [(7, .int 0), (6, .int 0), (5, .int 0), (4, .ref w3), (0, .ref (aX 200)), (1, .int a1), (2, .int a2), (3, .int a3)]) E dX11_evenings_58 (by decide) rfl ?_
            refine z_sub [4, 6, 7, 3, 2, 1, 0] (lv' := [(0, .ref (aX 200)), (2, .int a2), (3, .int a3), (4, .ref w3), (5, .int 0), (6, .int 0), (7, .int 0)]) rfl ?_
            exact L60 N S_9 S_10 SE a2 a3 w3 0 0 0 hf
          · have hf := kB_f hf c8
            refine z_bipush (pc := 37) (v := (-2)) E dX11_evenings_37 (by decide) ?_
            cases hf
            exact z_iret E hr dX11_evenings_39
      · have hf := kB_f hf c6
        refine z_iconst (pc := 24) (v := (-1)) E dX11_evenings_24 (by decide) ?_
        cases hf
        exact z_iret E hr dX11_evenings_25
noncomputable def f_X11_hear (SX : zRS) (SN : zHS) (SK : zHS) (ST : zTS) (SH : zHS) (SR : zRS) (SV : (Nat → Nat → Int64)) (SG : (Nat → Int32)) (SY : (Nat → Int32)) (SZ : (Nat → Int32)) (SD : (List (Nat × zPS))) (SE : (List ((Nat → Nat) × zQS))) (a1 : Int32) : Option (Int32 × zHS) := kB ((SN.1 9) < 8) (kL ((SN.1 9) + 1) (fun v2 => kL (hSI SN 9 v2) (fun SN_3 => kO (¬ ((SN.1 9) < 0 ∨ 8 ≤ Int32.toNatClampNeg (SN.1 9))) (kO (a1 = 0 ∨ a1 = 1) (kL (hSA SN_3 5 (upd (SN_3.2.1 5) (Int32.toNatClampNeg (SN.1 9)) a1)) (fun SN_6 => some ((SN_6.1 9), SN_6))))))) (some ((-4), SN))
theorem wv_X11_hear : zWV RX11 yX11_hear cX11_hear 2 (some .int) 1 := ⟨wd_39_8, wd_39_9, wd_1_2, wd_39_10, by decide +kernel⟩
def rm_X11_hear : Room := { frames := 0, cells := 0, slots := 0, locals := 0 }
set_option maxHeartbeats 4000000 in
set_option maxRecDepth 100000 in
theorem c_X11_hear {l : Launch} {G : va_G} {ct : Nat → ClassId} {aX : Nat → Nat} {aN : Nat → Nat} {aK : Nat → Nat} {aT : Nat → Nat} {aH : Nat → Nat} {aR : Nat → Nat} {aV : Nat → Nat} {gG : Nat} {gY : Nat} {gZ : Nat} {SX : zRS} {SN : zHS} {SK : zHS} {ST : zTS} {SH : zHS} {SR : zRS} {SV : (Nat → Nat → Int64)} {SG : (Nat → Int32)} {SY : (Nat → Int32)} {SZ : (Nat → Int32)} {SD : (List (Nat × zPS))} {SE : (List ((Nat → Nat) × zQS))} {a1 : Int32} {r0 : Int32} {ON : zHS} (hf : f_X11_hear SX SN SK ST SH SR SV SG SY SZ SD SE a1 = some (r0, ON)) : zC l yX11_hear cX11_hear 2 (some .int) rm_X11_hear G ct [.ref (aX 200), .int a1] [wX aX (aN 200) (aK 200) (aT 200) (aR 200) (aV 6) gG gY gZ ct SX, wH aN ct SN, wH aK ct SK, wT aT (aH 200) ct ST, wH aH ct SH, wR aR ct SR, wV aV ct SV, wA gG 21 ct SG, wA gY 5 ct SY, wA gZ 5 ct SZ, wDp gG SD, wDh ct SE] [wX aX (aN 200) (aK 200) (aT 200) (aR 200) (aV 6) gG gY gZ ct SX, wH aN ct ON, wH aK ct SK, wT aT (aH 200) ct ST, wH aH ct SH, wR aR ct SR, wV aV ct SV, wA gG 21 ct SG, wA gY 5 ct SY, wA gZ 5 ct SZ, wDp gG SD, wDh ct SE] (some (.int r0)) 0 0 := by
  refine z_enter (own := RX11) (lv := [(0, .ref (aX 200)), (1, .int a1)]) (by decide) rfl (Nat.le_of_ble_eq_true rfl) rfl ?_
  intro p e s m args below meth c A E hr hnm
  unfold f_X11_hear at hf
  refine z_aload_n (pc := 0) (k0 := 0) E dX11_hear_0 rfl rfl ?_
  refine gX_0 (pc := 1) (i := 0) E rfl wd_1_16 dX11_hear_1 ?_
  refine gH_9 (pc := 4) (i := 1) E rfl wd_39_11 dX11_hear_4 ?_
  refine z_bipush (pc := 7) (v := 8) E dX11_hear_7 (by decide) ?_
  refine z_icmp_lt (pc := 9) (tgt := 15) E dX11_hear_9 (by decide) (fun c1 => ?_) (fun c1 => ?_)
  · have hf := kB_t hf c1
    refine z_aload_n (pc := 15) (k0 := 0) E dX11_hear_15 rfl rfl ?_
    refine gX_0 (pc := 16) (i := 0) E rfl wd_1_16 dX11_hear_16 ?_
    refine gH_5 (pc := 19) (i := 1) E rfl wd_39_12 dX11_hear_19 ?_
    refine z_aload_n (pc := 22) (k0 := 0) E dX11_hear_22 rfl rfl ?_
    refine gX_0 (pc := 23) (i := 0) E rfl wd_1_16 dX11_hear_23 ?_
    refine z_dup (pc := 26) E dX11_hear_26 rfl ?_
    refine gH_9 (pc := 27) (i := 1) E rfl wd_39_11 dX11_hear_27 ?_
    refine z_dup_x1 (pc := 30) E dX11_hear_30 rfl rfl ?_
    refine z_iconst (pc := 31) (v := 1) E dX11_hear_31 (by decide) ?_
    obtain ⟨v2, e_v2, hf⟩ := kL_e hf
    refine z_iadd (pc := 32) (v := v2) E dX11_hear_32 e_v2 ?_
    obtain ⟨SN_3, e_SN_3, hf⟩ := kL_e hf
    refine pH_9 (pc := 33) (i := 1) (S1 := SN_3) E rfl e_SN_3 wd_39_11 dX11_hear_33 ?_
    show zJ p l e rm_X11_hear s m args below meth c (zQ G ct (some (.int r0)) [wX aX (aN 200) (aK 200) (aT 200) (aR 200) (aV 6) gG gY gZ ct SX, wH aN ct ON, wH aK ct SK, wT aT (aH 200) ct ST, wH aH ct SH, wR aR ct SR, wV aV ct SV, wA gG 21 ct SG, wA gY 5 ct SY, wA gZ 5 ct SZ, wDp gG SD, wDh ct SE] A below args s 0 0) A G 2 0 0 [wX aX (aN 200) (aK 200) (aT 200) (aR 200) (aV 6) gG gY gZ ct SX, wH aN ct SN_3, wH aK ct SK, wT aT (aH 200) ct ST, wH aH ct SH, wR aR ct SR, wV aV ct SV, wA gG 21 ct SG, wA gY 5 ct SY, wA gZ 5 ct SZ, wDp gG SD, wDh ct SE] [(0, .ref (aX 200)), (1, .int a1)] 36 [.int (SN.1 9), .ref (aN 5)]
    refine z_iload_n (pc := 36) (k0 := 1) E dX11_hear_36 rfl rfl ?_
    obtain ⟨c4, hf⟩ := kO_e hf
    obtain ⟨c5, hf⟩ := kO_e hf
    obtain ⟨SN_6, e_SN_6, hf⟩ := kL_e hf
    refine sH_5 (pc := 37) (i := 1) (S1 := SN_6) E rfl c4 c5 e_SN_6 dX11_hear_37 ?_
    show zJ p l e rm_X11_hear s m args below meth c (zQ G ct (some (.int r0)) [wX aX (aN 200) (aK 200) (aT 200) (aR 200) (aV 6) gG gY gZ ct SX, wH aN ct ON, wH aK ct SK, wT aT (aH 200) ct ST, wH aH ct SH, wR aR ct SR, wV aV ct SV, wA gG 21 ct SG, wA gY 5 ct SY, wA gZ 5 ct SZ, wDp gG SD, wDh ct SE] A below args s 0 0) A G 2 0 0 [wX aX (aN 200) (aK 200) (aT 200) (aR 200) (aV 6) gG gY gZ ct SX, wH aN ct SN_6, wH aK ct SK, wT aT (aH 200) ct ST, wH aH ct SH, wR aR ct SR, wV aV ct SV, wA gG 21 ct SG, wA gY 5 ct SY, wA gZ 5 ct SZ, wDp gG SD, wDh ct SE] [(0, .ref (aX 200)), (1, .int a1)] 38 []
    refine z_aload_n (pc := 38) (k0 := 0) E dX11_hear_38 rfl rfl ?_
    refine gX_0 (pc := 39) (i := 0) E rfl wd_1_16 dX11_hear_39 ?_
    refine gH_9 (pc := 42) (i := 1) E rfl wd_39_11 dX11_hear_42 ?_
    cases hf
    exact z_iret E hr dX11_hear_45
  · have hf := kB_f hf c1
    refine z_bipush (pc := 12) (v := (-4)) E dX11_hear_12 (by decide) ?_
    cases hf
    exact z_iret E hr dX11_hear_14
noncomputable def f_X11_hush (SX : zRS) (SN : zHS) (SK : zHS) (ST : zTS) (SH : zHS) (SR : zRS) (SV : (Nat → Nat → Int64)) (SG : (Nat → Int32)) (SY : (Nat → Int32)) (SZ : (Nat → Int32)) (SD : (List (Nat × zPS))) (SE : (List ((Nat → Nat) × zQS))) : Option (Int32 × zHS) := kL (hSI SN 9 0) (fun SN_1 => some ((SN.1 9), SN_1))
theorem wv_X11_hush : zWV RX11 yX11_hush cX11_hush 2 (some .int) 0 := ⟨wd_39_18, wd_39_19, wd_1_2, wd_39_20, by decide +kernel⟩
def rm_X11_hush : Room := { frames := 0, cells := 0, slots := 0, locals := 0 }
set_option maxHeartbeats 4000000 in
set_option maxRecDepth 100000 in
theorem c_X11_hush {l : Launch} {G : va_G} {ct : Nat → ClassId} {aX : Nat → Nat} {aN : Nat → Nat} {aK : Nat → Nat} {aT : Nat → Nat} {aH : Nat → Nat} {aR : Nat → Nat} {aV : Nat → Nat} {gG : Nat} {gY : Nat} {gZ : Nat} {SX : zRS} {SN : zHS} {SK : zHS} {ST : zTS} {SH : zHS} {SR : zRS} {SV : (Nat → Nat → Int64)} {SG : (Nat → Int32)} {SY : (Nat → Int32)} {SZ : (Nat → Int32)} {SD : (List (Nat × zPS))} {SE : (List ((Nat → Nat) × zQS))} {r0 : Int32} {ON : zHS} (hf : f_X11_hush SX SN SK ST SH SR SV SG SY SZ SD SE = some (r0, ON)) : zC l yX11_hush cX11_hush 2 (some .int) rm_X11_hush G ct [.ref (aX 200)] [wX aX (aN 200) (aK 200) (aT 200) (aR 200) (aV 6) gG gY gZ ct SX, wH aN ct SN, wH aK ct SK, wT aT (aH 200) ct ST, wH aH ct SH, wR aR ct SR, wV aV ct SV, wA gG 21 ct SG, wA gY 5 ct SY, wA gZ 5 ct SZ, wDp gG SD, wDh ct SE] [wX aX (aN 200) (aK 200) (aT 200) (aR 200) (aV 6) gG gY gZ ct SX, wH aN ct ON, wH aK ct SK, wT aT (aH 200) ct ST, wH aH ct SH, wR aR ct SR, wV aV ct SV, wA gG 21 ct SG, wA gY 5 ct SY, wA gZ 5 ct SZ, wDp gG SD, wDh ct SE] (some (.int r0)) 0 0 := by
  refine z_enter (own := RX11) (lv := [(0, .ref (aX 200))]) (by decide) rfl (Nat.le_of_ble_eq_true rfl) rfl ?_
  intro p e s m args below meth c A E hr hnm
  unfold f_X11_hush at hf
  refine z_aload_n (pc := 0) (k0 := 0) E dX11_hush_0 rfl rfl ?_
  refine gX_0 (pc := 1) (i := 0) E rfl wd_1_16 dX11_hush_1 ?_
  refine gH_9 (pc := 4) (i := 1) E rfl wd_39_11 dX11_hush_4 ?_
  refine z_istore_n (pc := 7) (lv' := [(1, .int (SN.1 9)), (0, .ref (aX 200))]) E dX11_hush_7 rfl (by decide) rfl ?_
  refine z_aload_n (pc := 8) (k0 := 1) E dX11_hush_8 rfl rfl ?_
  refine gX_0 (pc := 9) (i := 0) E rfl wd_1_16 dX11_hush_9 ?_
  refine z_iconst (pc := 12) (v := 0) E dX11_hush_12 (by decide) ?_
  obtain ⟨SN_1, e_SN_1, hf⟩ := kL_e hf
  refine pH_9 (pc := 13) (i := 1) (S1 := SN_1) E rfl e_SN_1 wd_39_11 dX11_hush_13 ?_
  show zJ p l e rm_X11_hush s m args below meth c (zQ G ct (some (.int r0)) [wX aX (aN 200) (aK 200) (aT 200) (aR 200) (aV 6) gG gY gZ ct SX, wH aN ct ON, wH aK ct SK, wT aT (aH 200) ct ST, wH aH ct SH, wR aR ct SR, wV aV ct SV, wA gG 21 ct SG, wA gY 5 ct SY, wA gZ 5 ct SZ, wDp gG SD, wDh ct SE] A below args s 0 0) A G 2 0 0 [wX aX (aN 200) (aK 200) (aT 200) (aR 200) (aV 6) gG gY gZ ct SX, wH aN ct SN_1, wH aK ct SK, wT aT (aH 200) ct ST, wH aH ct SH, wR aR ct SR, wV aV ct SV, wA gG 21 ct SG, wA gY 5 ct SY, wA gZ 5 ct SZ, wDp gG SD, wDh ct SE] [(1, .int (SN.1 9)), (0, .ref (aX 200))] 16 []
  refine z_iload_n (pc := 16) (k0 := 0) E dX11_hush_16 rfl rfl ?_
  cases hf
  exact z_iret E hr dX11_hush_17
noncomputable def f_X11_makesSo_l13 (N : Nat) (SX : zRS) (SN : zHS) (SK : zHS) (SR : zRS) (SV : (Nat → Nat → Int64)) (SG : (Nat → Int32)) (SY : (Nat → Int32)) (SZ : (Nat → Int32)) (SD : (List (Nat × zPS))) : Nat → zTS → zHS → ((List ((Nat → Nat) × zQS))) → (Option Nat) → Int32 → Option (Int32 × zTS × zHS × ((List ((Nat → Nat) × zQS)))) := fun n => Nat.rec (motive := fun _ => zTS → zHS → ((List ((Nat → Nat) × zQS))) → (Option Nat) → Int32 → Option (Int32 × zTS × zHS × ((List ((Nat → Nat) × zQS))))) (fun _ _ _ _ _ => none) (fun _ ih ST SH SE x1 x2 => kB ((SN.1 9) ≤ x2) (some (1, ST, SH, SE)) (kB (8 ≤ x2) (some (1, ST, SH, SE)) (kC (f_X10_goesOn ST SH) (fun r6 => kB (r6 = 0) (some (0, ST, SH, SE)) (kD4 (f_X10_step N ST SH SD SE x1) (fun r9 S_10 S_11 S_12 => kO (¬ (x2 < 0 ∨ 8 ≤ Int32.toNatClampNeg x2)) (kB (r9 = ((SN.2.1 5) (Int32.toNatClampNeg x2))) (kL (x2 + 1) (fun v16 => ih S_10 S_11 S_12 x1 v16)) (some (0, S_10, S_11, S_12))))))))) n
theorem f_X11_makesSo_l13_z (N : Nat) (SX : zRS) (SN : zHS) (SK : zHS) (SR : zRS) (SV : (Nat → Nat → Int64)) (SG : (Nat → Int32)) (SY : (Nat → Int32)) (SZ : (Nat → Int32)) (SD : (List (Nat × zPS))) (ST : zTS) (SH : zHS) (SE : (List ((Nat → Nat) × zQS))) (x1 : Option Nat) (x2 : Int32) : f_X11_makesSo_l13 N SX SN SK SR SV SG SY SZ SD 0 ST SH SE x1 x2 = none := rfl
theorem f_X11_makesSo_l13_s (N : Nat) (SX : zRS) (SN : zHS) (SK : zHS) (SR : zRS) (SV : (Nat → Nat → Int64)) (SG : (Nat → Int32)) (SY : (Nat → Int32)) (SZ : (Nat → Int32)) (SD : (List (Nat × zPS))) (n : Nat) (ST : zTS) (SH : zHS) (SE : (List ((Nat → Nat) × zQS))) (x1 : Option Nat) (x2 : Int32) : f_X11_makesSo_l13 N SX SN SK SR SV SG SY SZ SD (n + 1) ST SH SE x1 x2 = kB ((SN.1 9) ≤ x2) (some (1, ST, SH, SE)) (kB (8 ≤ x2) (some (1, ST, SH, SE)) (kC (f_X10_goesOn ST SH) (fun r6 => kB (r6 = 0) (some (0, ST, SH, SE)) (kD4 (f_X10_step N ST SH SD SE x1) (fun r9 S_10 S_11 S_12 => kO (¬ (x2 < 0 ∨ 8 ≤ Int32.toNatClampNeg x2)) (kB (r9 = ((SN.2.1 5) (Int32.toNatClampNeg x2))) (kL (x2 + 1) (fun v16 => (f_X11_makesSo_l13 N SX SN SK SR SV SG SY SZ SD n) S_10 S_11 S_12 x1 v16)) (some (0, S_10, S_11, S_12)))))))) := rfl
noncomputable def f_X11_makesSo (N : Nat) (SX : zRS) (SN : zHS) (SK : zHS) (ST : zTS) (SH : zHS) (SR : zRS) (SV : (Nat → Nat → Int64)) (SG : (Nat → Int32)) (SY : (Nat → Int32)) (SZ : (Nat → Int32)) (SD : (List (Nat × zPS))) (SE : (List ((Nat → Nat) × zQS))) (a1 : Option Nat) : Option (Int32 × zTS × zHS × ((List ((Nat → Nat) × zQS)))) := kD (f_X10_start N ST SH SN SD) (fun S_1 S_2 => f_X11_makesSo_l13 N SX SN SK SR SV SG SY SZ SD N S_1 S_2 SE a1 0)
theorem wv_X11_makesSo : zWV RX11 yX11_makesSo cX11_makesSo 3 (some .boolean) 1 := ⟨wd_40_6, wd_40_7, wd_1_2, wd_40_8, by decide +kernel⟩
def rm_X11_makesSo : Room := { frames := 5, cells := 0, slots := 0, locals := 147 }
set_option maxHeartbeats 4000000 in
set_option maxRecDepth 100000 in
theorem c_X11_makesSo {l : Launch} {G : va_G} {ct : Nat → ClassId} {aX : Nat → Nat} {aN : Nat → Nat} {aK : Nat → Nat} {aT : Nat → Nat} {aH : Nat → Nat} {aR : Nat → Nat} {aV : Nat → Nat} {gG : Nat} {gY : Nat} {gZ : Nat} {N : Nat} {SX : zRS} {SN : zHS} {SK : zHS} {ST : zTS} {SH : zHS} {SR : zRS} {SV : (Nat → Nat → Int64)} {SG : (Nat → Int32)} {SY : (Nat → Int32)} {SZ : (Nat → Int32)} {SD : (List (Nat × zPS))} {SE : (List ((Nat → Nat) × zQS))} {a1 : Option Nat} {r0 : Int32} {OT : zTS} {OH : zHS} {OE : (List ((Nat → Nat) × zQS))} (hf : f_X11_makesSo N SX SN SK ST SH SR SV SG SY SZ SD SE a1 = some (r0, OT, OH, OE)) : zC l yX11_makesSo cX11_makesSo 3 (some .boolean) rm_X11_makesSo G ct [.ref (aX 200), va_rf a1] [wX aX (aN 200) (aK 200) (aT 200) (aR 200) (aV 6) gG gY gZ ct SX, wH aN ct SN, wH aK ct SK, wT aT (aH 200) ct ST, wH aH ct SH, wR aR ct SR, wV aV ct SV, wA gG 21 ct SG, wA gY 5 ct SY, wA gZ 5 ct SZ, wDp gG SD, wDh ct SE] [wX aX (aN 200) (aK 200) (aT 200) (aR 200) (aV 6) gG gY gZ ct SX, wH aN ct SN, wH aK ct SK, wT aT (aH 200) ct OT, wH aH ct OH, wR aR ct SR, wV aV ct SV, wA gG 21 ct SG, wA gY 5 ct SY, wA gZ 5 ct SZ, wDp gG SD, wDh ct OE] (some (.int r0)) 0 0 := by
  refine z_enter (own := RX11) (lv := [(0, .ref (aX 200)), (1, va_rf a1)]) (by decide) rfl (by simp [lg_sl, zcat, zcr, zci, zcl]) (by simp [lv_args, zcat, zcr, zci, zcl]) ?_
  intro p e s m args below meth c A E hr hnm
  have L13 : ∀ (n13 : Nat) (ST : zTS) (SH : zHS) (SE : (List ((Nat → Nat) × zQS))) (x1 : Option Nat) (x2 : Int32), f_X11_makesSo_l13 N SX SN SK SR SV SG SY SZ SD n13 ST SH SE x1 x2 = some (r0, OT, OH, OE) → zJ p l e rm_X11_makesSo s m args below meth c (zQ G ct (some (.int r0)) [wX aX (aN 200) (aK 200) (aT 200) (aR 200) (aV 6) gG gY gZ ct SX, wH aN ct SN, wH aK ct SK, wT aT (aH 200) ct OT, wH aH ct OH, wR aR ct SR, wV aV ct SV, wA gG 21 ct SG, wA gY 5 ct SY, wA gZ 5 ct SZ, wDp gG SD, wDh ct OE] A below args s 0 0) A G 3 0 0 [wX aX (aN 200) (aK 200) (aT 200) (aR 200) (aV 6) gG gY gZ ct SX, wH aN ct SN, wH aK ct SK, wT aT (aH 200) ct ST, wH aH ct SH, wR aR ct SR, wV aV ct SV, wA gG 21 ct SG, wA gY 5 ct SY, wA gZ 5 ct SZ, wDp gG SD, wDh ct SE] [(0, .ref (aX 200)), (1, va_rf x1), (2, .int x2)] 13 [] := by
    intro n13
    induction n13 with
    | zero =>
      intro ST SH SE x1 x2 hf
      rw [f_X11_makesSo_l13_z] at hf
      cases hf
    | succ n13 ih13 =>
      intro ST SH SE x1 x2 hf
      rw [f_X11_makesSo_l13_s] at hf
      refine z_iload_n (pc := 13) (k0 := 2) E dX11_makesSo_13 rfl rfl ?_
      refine z_aload_n (pc := 14) (k0 := 0) E dX11_makesSo_14 rfl rfl ?_
      refine gX_0 (pc := 15) (i := 0) E rfl wd_1_16 dX11_makesSo_15 ?_
      refine gH_9 (pc := 18) (i := 1) E rfl wd_39_11 dX11_makesSo_18 ?_
      refine z_icmp_ge (pc := 21) (tgt := 68) E dX11_makesSo_21 (by decide) (fun c4 => ?_) (fun c4 => ?_)
      · have hf := kB_t hf c4
        refine z_iconst (pc := 68) (v := 1) E dX11_makesSo_68 (by decide) ?_
        cases hf
        exact z_zret E hr (by decide) dX11_makesSo_69
      · have hf := kB_f hf c4
        refine z_iload_n (pc := 24) (k0 := 2) E dX11_makesSo_24 rfl rfl ?_
        refine z_bipush (pc := 25) (v := 8) E dX11_makesSo_25 (by decide) ?_
        refine z_icmp_ge (pc := 27) (tgt := 68) E dX11_makesSo_27 (by decide) (fun c5 => ?_) (fun c5 => ?_)
        · have hf := kB_t hf c5
          refine z_iconst (pc := 68) (v := 1) E dX11_makesSo_68 (by decide) ?_
          cases hf
          exact z_zret E hr (by decide) dX11_makesSo_69
        · have hf := kB_f hf c5
          refine z_aload_n (pc := 30) (k0 := 0) E dX11_makesSo_30 rfl rfl ?_
          refine gX_2 (pc := 31) (i := 0) E rfl wd_1_21 dX11_makesSo_31 ?_
          obtain ⟨r6, h7, hf⟩ := kC_e hf
          refine z_callV0 (pc := 34) (is := [3, 4]) (n := 0) (As := []) (st := []) (st' := [.int r6]) (C2 := [wX aX (aN 200) (aK 200) (aT 200) (aR 200) (aV 6) gG gY gZ ct SX, wH aN ct SN, wH aK ct SK, wT aT (aH 200) ct ST, wH aH ct SH, wR aR ct SR, wV aV ct SV, wA gG 21 ct SG, wA gY 5 ct SY, wA gZ 5 ct SZ, wDp gG SD, wDh ct SE]) E (c_X10_goesOn (l := l) (G := G) (ct := ct) (aT := aT) (aH := aH) h7) wv_X10_goesOn wd_40_9 ⟨Nat.le_of_ble_eq_true rfl, Nat.le_of_ble_eq_true rfl, Nat.le_of_ble_eq_true rfl, Nat.le_of_ble_eq_true rfl⟩ rfl rfl rfl (by decide) rfl rfl (zrT (j := 0) rfl) rfl (Nat.le_of_ble_eq_true rfl) dX11_makesSo_34 rfl rfl ?_
          refine z_if_eq (pc := 37) (tgt := 60) E dX11_makesSo_37 (by decide) (fun c8 => ?_) (fun c8 => ?_)
          · have hf := kB_t hf c8
            refine z_iconst (pc := 60) (v := 0) E dX11_makesSo_60 (by decide) ?_
            cases hf
            exact z_zret E hr (by decide) dX11_makesSo_61
          · have hf := kB_f hf c8
            refine z_aload_n (pc := 40) (k0 := 0) E dX11_makesSo_40 rfl rfl ?_
            refine gX_2 (pc := 41) (i := 0) E rfl wd_1_21 dX11_makesSo_41 ?_
            refine z_qload_n (pc := 44) (k0 := 1) E dX11_makesSo_44 rfl rfl ?_
            obtain ⟨r9, S_10, S_11, S_12, h13, hf⟩ := kD4_e hf
            refine z_callV0 (pc := 45) (is := [3, 4, 10, 11]) (n := 1) (As := [va_rf x1]) (st := []) (st' := [.int r9]) (C2 := [wX aX (aN 200) (aK 200) (aT 200) (aR 200) (aV 6) gG gY gZ ct SX, wH aN ct SN, wH aK ct SK, wT aT (aH 200) ct S_10, wH aH ct S_11, wR aR ct SR, wV aV ct SV, wA gG 21 ct SG, wA gY 5 ct SY, wA gZ 5 ct SZ, wDp gG SD, wDh ct S_12]) E (c_X10_step (l := l) (G := G) (ct := ct) (aT := aT) (aH := aH) (gG := gG) h13) wv_X10_step wd_40_10 ⟨Nat.le_of_ble_eq_true rfl, Nat.le_of_ble_eq_true rfl, Nat.le_of_ble_eq_true rfl, Nat.le_of_ble_eq_true rfl⟩ rfl rfl rfl (by decide) rfl rfl (zrT (j := 0) rfl) rfl (Nat.le_of_ble_eq_true rfl) dX11_makesSo_45 rfl rfl ?_
            refine z_aload_n (pc := 48) (k0 := 0) E dX11_makesSo_48 rfl rfl ?_
            refine gX_0 (pc := 49) (i := 0) E rfl wd_1_16 dX11_makesSo_49 ?_
            refine gH_5 (pc := 52) (i := 1) E rfl wd_39_12 dX11_makesSo_52 ?_
            refine z_iload_n (pc := 55) (k0 := 2) E dX11_makesSo_55 rfl rfl ?_
            obtain ⟨c14, hf⟩ := kO_e hf
            refine lH_5 (pc := 56) (i := 1) E rfl c14 dX11_makesSo_56 ?_
            refine z_icmp_eq (pc := 57) (tgt := 62) E dX11_makesSo_57 (by decide) (fun c15 => ?_) (fun c15 => ?_)
            · have hf := kB_t hf c15
              obtain ⟨v16, e_v16, hf⟩ := kL_e hf
              refine z_iinc (pc := 62) (k0 := 2) (v := v16) (lv' := [(2, .int v16), (0, .ref (aX 200)), (1, va_rf x1)]) E dX11_makesSo_62 rfl e_v16 (by decide) (by simp [zcat, zcr, zci]) ?_
              refine z_goto (pc := 65) (tgt := 13) E dX11_makesSo_65 (by decide) ?_
              refine z_sub [1, 2, 0] (lv' := [(0, .ref (aX 200)), (1, va_rf x1), (2, .int v16)]) rfl ?_
              exact ih13 S_10 S_11 S_12 x1 v16 hf
            · have hf := kB_f hf c15
              refine z_iconst (pc := 60) (v := 0) E dX11_makesSo_60 (by decide) ?_
              cases hf
              exact z_zret E hr (by decide) dX11_makesSo_61
  unfold f_X11_makesSo at hf
  refine z_aload_n (pc := 0) (k0 := 0) E dX11_makesSo_0 rfl rfl ?_
  refine gX_2 (pc := 1) (i := 0) E rfl wd_1_21 dX11_makesSo_1 ?_
  refine z_aload_n (pc := 4) (k0 := 0) E dX11_makesSo_4 rfl rfl ?_
  refine gX_0 (pc := 5) (i := 0) E rfl wd_1_16 dX11_makesSo_5 ?_
  obtain ⟨S_1, S_2, h3, hf⟩ := kD_e hf
  refine z_callV0 (pc := 8) (is := [3, 4, 1, 10]) (n := 1) (As := [.ref (aN 200)]) (st := []) (st' := []) (C2 := [wX aX (aN 200) (aK 200) (aT 200) (aR 200) (aV 6) gG gY gZ ct SX, wH aN ct SN, wH aK ct SK, wT aT (aH 200) ct S_1, wH aH ct S_2, wR aR ct SR, wV aV ct SV, wA gG 21 ct SG, wA gY 5 ct SY, wA gZ 5 ct SZ, wDp gG SD, wDh ct SE]) E (c_X10_start (l := l) (G := G) (ct := ct) (aT := aT) (aH := aH) (aK := aN) (gG := gG) h3) wv_X10_start wd_32_12 ⟨Nat.le_of_ble_eq_true rfl, Nat.le_of_ble_eq_true rfl, Nat.le_of_ble_eq_true rfl, Nat.le_of_ble_eq_true rfl⟩ rfl rfl rfl (by decide) rfl rfl (zrT (j := 0) rfl) rfl (Nat.le_of_ble_eq_true rfl) dX11_makesSo_8 rfl rfl ?_
  refine z_iconst (pc := 11) (v := 0) E dX11_makesSo_11 (by decide) ?_
  refine z_istore_n (pc := 12) (lv' := [(2, .int 0), (0, .ref (aX 200)), (1, va_rf a1)]) E dX11_makesSo_12 rfl (by decide) (by simp [zcat, zcr, zci]) ?_
  refine z_sub [1, 2, 0] (lv' := [(0, .ref (aX 200)), (1, va_rf a1), (2, .int 0)]) rfl ?_
  exact L13 N S_1 S_2 SE a1 0 hf
noncomputable def f_X11_who_l4 (N : Nat) (SX : zRS) (SN : zHS) (SK : zHS) (SR : zRS) (SV : (Nat → Nat → Int64)) (SG : (Nat → Int32)) (SY : (Nat → Int32)) (SZ : (Nat → Int32)) (SD : (List (Nat × zPS))) : Nat → zTS → zHS → ((List ((Nat → Nat) × zQS))) → Int32 → Int32 → Option (Int32 × zTS × zHS × ((List ((Nat → Nat) × zQS)))) := fun n => Nat.rec (motive := fun _ => zTS → zHS → ((List ((Nat → Nat) × zQS))) → Int32 → Int32 → Option (Int32 × zTS × zHS × ((List ((Nat → Nat) × zQS))))) (fun _ _ _ _ _ => none) (fun _ ih ST SH SE x1 x2 => kB ((SN.1 8) ≤ x2) (some (x1, ST, SH, SE)) (kC (f_X1_person SN x2) (fun r2 => kD4 (f_X11_makesSo N SX SN SK ST SH SR SV SG SY SZ SD SE r2) (fun r4 S_5 S_6 S_7 => kB (r4 = 0) (kL (x2 + 1) (fun v10 => ih S_5 S_6 S_7 x1 v10)) (kL ((1 : Int32) <<< (x2 &&& 31)) (fun v11 => kL (x1 ||| v11) (fun v12 => kL (x2 + 1) (fun v13 => ih S_5 S_6 S_7 v12 v13)))))))) n
theorem f_X11_who_l4_z (N : Nat) (SX : zRS) (SN : zHS) (SK : zHS) (SR : zRS) (SV : (Nat → Nat → Int64)) (SG : (Nat → Int32)) (SY : (Nat → Int32)) (SZ : (Nat → Int32)) (SD : (List (Nat × zPS))) (ST : zTS) (SH : zHS) (SE : (List ((Nat → Nat) × zQS))) (x1 : Int32) (x2 : Int32) : f_X11_who_l4 N SX SN SK SR SV SG SY SZ SD 0 ST SH SE x1 x2 = none := rfl
theorem f_X11_who_l4_s (N : Nat) (SX : zRS) (SN : zHS) (SK : zHS) (SR : zRS) (SV : (Nat → Nat → Int64)) (SG : (Nat → Int32)) (SY : (Nat → Int32)) (SZ : (Nat → Int32)) (SD : (List (Nat × zPS))) (n : Nat) (ST : zTS) (SH : zHS) (SE : (List ((Nat → Nat) × zQS))) (x1 : Int32) (x2 : Int32) : f_X11_who_l4 N SX SN SK SR SV SG SY SZ SD (n + 1) ST SH SE x1 x2 = kB ((SN.1 8) ≤ x2) (some (x1, ST, SH, SE)) (kC (f_X1_person SN x2) (fun r2 => kD4 (f_X11_makesSo N SX SN SK ST SH SR SV SG SY SZ SD SE r2) (fun r4 S_5 S_6 S_7 => kB (r4 = 0) (kL (x2 + 1) (fun v10 => (f_X11_who_l4 N SX SN SK SR SV SG SY SZ SD n) S_5 S_6 S_7 x1 v10)) (kL ((1 : Int32) <<< (x2 &&& 31)) (fun v11 => kL (x1 ||| v11) (fun v12 => kL (x2 + 1) (fun v13 => (f_X11_who_l4 N SX SN SK SR SV SG SY SZ SD n) S_5 S_6 S_7 v12 v13))))))) := rfl
noncomputable def f_X11_who (N : Nat) (SX : zRS) (SN : zHS) (SK : zHS) (ST : zTS) (SH : zHS) (SR : zRS) (SV : (Nat → Nat → Int64)) (SG : (Nat → Int32)) (SY : (Nat → Int32)) (SZ : (Nat → Int32)) (SD : (List (Nat × zPS))) (SE : (List ((Nat → Nat) × zQS))) : Option (Int32 × zTS × zHS × ((List ((Nat → Nat) × zQS)))) := f_X11_who_l4 N SX SN SK SR SV SG SY SZ SD N ST SH SE 0 0
theorem wv_X11_who : zWV RX11 yX11_who cX11_who 3 (some .int) 0 := ⟨wd_40_2, wd_40_3, wd_1_2, wd_40_4, by decide +kernel⟩
def rm_X11_who : Room := { frames := 6, cells := 0, slots := 0, locals := 169 }
set_option maxHeartbeats 4000000 in
set_option maxRecDepth 100000 in
theorem c_X11_who {l : Launch} {G : va_G} {ct : Nat → ClassId} {aX : Nat → Nat} {aN : Nat → Nat} {aK : Nat → Nat} {aT : Nat → Nat} {aH : Nat → Nat} {aR : Nat → Nat} {aV : Nat → Nat} {gG : Nat} {gY : Nat} {gZ : Nat} {N : Nat} {SX : zRS} {SN : zHS} {SK : zHS} {ST : zTS} {SH : zHS} {SR : zRS} {SV : (Nat → Nat → Int64)} {SG : (Nat → Int32)} {SY : (Nat → Int32)} {SZ : (Nat → Int32)} {SD : (List (Nat × zPS))} {SE : (List ((Nat → Nat) × zQS))} {r0 : Int32} {OT : zTS} {OH : zHS} {OE : (List ((Nat → Nat) × zQS))} (hf : f_X11_who N SX SN SK ST SH SR SV SG SY SZ SD SE = some (r0, OT, OH, OE)) : zC l yX11_who cX11_who 3 (some .int) rm_X11_who G ct [.ref (aX 200)] [wX aX (aN 200) (aK 200) (aT 200) (aR 200) (aV 6) gG gY gZ ct SX, wH aN ct SN, wH aK ct SK, wT aT (aH 200) ct ST, wH aH ct SH, wR aR ct SR, wV aV ct SV, wA gG 21 ct SG, wA gY 5 ct SY, wA gZ 5 ct SZ, wDp gG SD, wDh ct SE] [wX aX (aN 200) (aK 200) (aT 200) (aR 200) (aV 6) gG gY gZ ct SX, wH aN ct SN, wH aK ct SK, wT aT (aH 200) ct OT, wH aH ct OH, wR aR ct SR, wV aV ct SV, wA gG 21 ct SG, wA gY 5 ct SY, wA gZ 5 ct SZ, wDp gG SD, wDh ct OE] (some (.int r0)) 0 0 := by
  refine z_enter (own := RX11) (lv := [(0, .ref (aX 200))]) (by decide) rfl (Nat.le_of_ble_eq_true rfl) rfl ?_
  intro p e s m args below meth c A E hr hnm
  have L4 : ∀ (n4 : Nat) (ST : zTS) (SH : zHS) (SE : (List ((Nat → Nat) × zQS))) (x1 : Int32) (x2 : Int32), f_X11_who_l4 N SX SN SK SR SV SG SY SZ SD n4 ST SH SE x1 x2 = some (r0, OT, OH, OE) → zJ p l e rm_X11_who s m args below meth c (zQ G ct (some (.int r0)) [wX aX (aN 200) (aK 200) (aT 200) (aR 200) (aV 6) gG gY gZ ct SX, wH aN ct SN, wH aK ct SK, wT aT (aH 200) ct OT, wH aH ct OH, wR aR ct SR, wV aV ct SV, wA gG 21 ct SG, wA gY 5 ct SY, wA gZ 5 ct SZ, wDp gG SD, wDh ct OE] A below args s 0 0) A G 3 0 0 [wX aX (aN 200) (aK 200) (aT 200) (aR 200) (aV 6) gG gY gZ ct SX, wH aN ct SN, wH aK ct SK, wT aT (aH 200) ct ST, wH aH ct SH, wR aR ct SR, wV aV ct SV, wA gG 21 ct SG, wA gY 5 ct SY, wA gZ 5 ct SZ, wDp gG SD, wDh ct SE] [(0, .ref (aX 200)), (1, .int x1), (2, .int x2)] 4 [] := by
    intro n4
    induction n4 with
    | zero =>
      intro ST SH SE x1 x2 hf
      rw [f_X11_who_l4_z] at hf
      cases hf
    | succ n4 ih4 =>
      intro ST SH SE x1 x2 hf
      rw [f_X11_who_l4_s] at hf
      refine z_iload_n (pc := 4) (k0 := 2) E dX11_who_4 rfl rfl ?_
      refine z_aload_n (pc := 5) (k0 := 0) E dX11_who_5 rfl rfl ?_
      refine gX_0 (pc := 6) (i := 0) E rfl wd_1_16 dX11_who_6 ?_
      refine gH_8 (pc := 9) (i := 1) E rfl wd_7_19 dX11_who_9 ?_
      refine z_icmp_ge (pc := 12) (tgt := 42) E dX11_who_12 (by decide) (fun c1 => ?_) (fun c1 => ?_)
      · have hf := kB_t hf c1
        refine z_iload_n (pc := 42) (k0 := 1) E dX11_who_42 rfl rfl ?_
        cases hf
        exact z_iret E hr dX11_who_43
      · have hf := kB_f hf c1
        refine z_aload_n (pc := 15) (k0 := 0) E dX11_who_15 rfl rfl ?_
        refine z_aload_n (pc := 16) (k0 := 0) E dX11_who_16 rfl rfl ?_
        refine gX_0 (pc := 17) (i := 0) E rfl wd_1_16 dX11_who_17 ?_
        refine z_iload_n (pc := 20) (k0 := 2) E dX11_who_20 rfl rfl ?_
        obtain ⟨r2, h3, hf⟩ := kC_e hf
        refine z_callV0 (pc := 21) (is := [1]) (n := 1) (As := [.int x2]) (st := [.ref (aX 200)]) (st' := [va_rf r2, .ref (aX 200)]) (C2 := [wX aX (aN 200) (aK 200) (aT 200) (aR 200) (aV 6) gG gY gZ ct SX, wH aN ct SN, wH aK ct SK, wT aT (aH 200) ct ST, wH aH ct SH, wR aR ct SR, wV aV ct SV, wA gG 21 ct SG, wA gY 5 ct SY, wA gZ 5 ct SZ, wDp gG SD, wDh ct SE]) E (c_X1_person (l := l) (G := G) (ct := ct) (aH := aN) h3) wv_X1_person wd_11_10 ⟨Nat.le_of_ble_eq_true rfl, Nat.le_of_ble_eq_true rfl, Nat.le_of_ble_eq_true rfl, Nat.le_of_ble_eq_true rfl⟩ rfl rfl rfl (by decide) rfl rfl (zrH (j := 0) rfl) rfl (Nat.le_of_ble_eq_true rfl) dX11_who_21 rfl rfl ?_
        obtain ⟨r4, S_5, S_6, S_7, h8, hf⟩ := kD4_e hf
        refine z_callV0 (pc := 24) (is := [0, 1, 2, 3, 4, 5, 6, 7, 8, 9, 10, 11]) (n := 1) (As := [va_rf r2]) (st := []) (st' := [.int r4]) (C2 := [wX aX (aN 200) (aK 200) (aT 200) (aR 200) (aV 6) gG gY gZ ct SX, wH aN ct SN, wH aK ct SK, wT aT (aH 200) ct S_5, wH aH ct S_6, wR aR ct SR, wV aV ct SV, wA gG 21 ct SG, wA gY 5 ct SY, wA gZ 5 ct SZ, wDp gG SD, wDh ct S_7]) E (c_X11_makesSo (l := l) (G := G) (ct := ct) (aX := aX) (aN := aN) (aK := aK) (aT := aT) (aH := aH) (aR := aR) (aV := aV) (gG := gG) (gY := gY) (gZ := gZ) h8) wv_X11_makesSo wd_40_5 ⟨Nat.le_of_ble_eq_true rfl, Nat.le_of_ble_eq_true rfl, Nat.le_of_ble_eq_true rfl, Nat.le_of_ble_eq_true rfl⟩ rfl rfl rfl (by decide) rfl rfl (zrX (j := 0) rfl) rfl (Nat.le_of_ble_eq_true rfl) dX11_who_24 rfl rfl ?_
        refine z_if_eq (pc := 27) (tgt := 36) E dX11_who_27 (by decide) (fun c9 => ?_) (fun c9 => ?_)
        · have hf := kB_t hf c9
          obtain ⟨v10, e_v10, hf⟩ := kL_e hf
          refine z_iinc (pc := 36) (k0 := 2) (v := v10) (lv' := [(2, .int v10), (0, .ref (aX 200)), (1, .int x1)]) E dX11_who_36 rfl e_v10 (by decide) rfl ?_
          refine z_goto (pc := 39) (tgt := 4) E dX11_who_39 (by decide) ?_
          refine z_sub [1, 2, 0] (lv' := [(0, .ref (aX 200)), (1, .int x1), (2, .int v10)]) rfl ?_
          exact ih4 S_5 S_6 S_7 x1 v10 hf
        · have hf := kB_f hf c9
          refine z_iload_n (pc := 30) (k0 := 1) E dX11_who_30 rfl rfl ?_
          refine z_iconst (pc := 31) (v := 1) E dX11_who_31 (by decide) ?_
          refine z_iload_n (pc := 32) (k0 := 2) E dX11_who_32 rfl rfl ?_
          obtain ⟨v11, e_v11, hf⟩ := kL_e hf
          refine z_ishl (pc := 33) (v := v11) E dX11_who_33 e_v11 ?_
          obtain ⟨v12, e_v12, hf⟩ := kL_e hf
          refine z_ior (pc := 34) (v := v12) E dX11_who_34 e_v12 ?_
          refine z_istore_n (pc := 35) (lv' := [(1, .int v12), (0, .ref (aX 200)), (2, .int x2)]) E dX11_who_35 rfl (by decide) rfl ?_
          obtain ⟨v13, e_v13, hf⟩ := kL_e hf
          refine z_iinc (pc := 36) (k0 := 2) (v := v13) (lv' := [(2, .int v13), (1, .int v12), (0, .ref (aX 200))]) E dX11_who_36 rfl e_v13 (by decide) rfl ?_
          refine z_goto (pc := 39) (tgt := 4) E dX11_who_39 (by decide) ?_
          refine z_sub [2, 1, 0] (lv' := [(0, .ref (aX 200)), (1, .int v12), (2, .int v13)]) rfl ?_
          exact ih4 S_5 S_6 S_7 v12 v13 hf
  unfold f_X11_who at hf
  refine z_iconst (pc := 0) (v := 0) E dX11_who_0 (by decide) ?_
  refine z_istore_n (pc := 1) (lv' := [(1, .int 0), (0, .ref (aX 200))]) E dX11_who_1 rfl (by decide) rfl ?_
  refine z_iconst (pc := 2) (v := 0) E dX11_who_2 (by decide) ?_
  refine z_istore_n (pc := 3) (lv' := [(2, .int 0), (1, .int 0), (0, .ref (aX 200))]) E dX11_who_3 rfl (by decide) rfl ?_
  refine z_sub [2, 1, 0] (lv' := [(0, .ref (aX 200)), (1, .int 0), (2, .int 0)]) rfl ?_
  exact L4 N ST SH SE 0 0 hf
noncomputable def f_X11_lowest_b56 (N : Nat) (x0 : Int32) (x1 : Int32) (x2 : Int32) (x3 : Int32) : Option Int64 := kB (x2 = 0) (kO (¬ x3 = 0) (kL (x0 / x3) (fun v20 => kL (v20.toInt64) (fun v21 => some (v21))))) (kO (¬ x3 = 0) (kL (x1 / x3) (fun v17 => kL (v17.toInt64) (fun v18 => some (v18)))))
noncomputable def f_X11_lowest_l22 (N : Nat) : Nat → Int32 → Int32 → Int32 → Int32 → Int32 → Option Int64 := fun n => Nat.rec (motive := fun _ => Int32 → Int32 → Int32 → Int32 → Int32 → Option Int64) (fun _ _ _ _ _ => none) (fun _ ih x0 x1 x2 x3 x4 => kB (x4 ≤ 1) (f_X11_lowest_b56 N x0 x1 x2 x3) (kB (x3 = 1) (kO (¬ x4 = 0) (kL (x0 - x0 / x4 * x4) (fun v7 => kB (v7 = 0) (kO (¬ x4 = 0) (kL (x1 - x1 / x4 * x4) (fun v11 => kB (v11 = 0) (kL (x4 + (-1)) (fun v14 => ih x0 x1 x2 x4 v14)) (kL (x4 + (-1)) (fun v13 => ih x0 x1 x2 x3 v13))))) (kL (x4 + (-1)) (fun v9 => ih x0 x1 x2 x3 v9))))) (f_X11_lowest_b56 N x0 x1 x2 x3))) n
theorem f_X11_lowest_l22_z (N : Nat) (x0 : Int32) (x1 : Int32) (x2 : Int32) (x3 : Int32) (x4 : Int32) : f_X11_lowest_l22 N 0 x0 x1 x2 x3 x4 = none := rfl
theorem f_X11_lowest_l22_s (N : Nat) (n : Nat) (x0 : Int32) (x1 : Int32) (x2 : Int32) (x3 : Int32) (x4 : Int32) : f_X11_lowest_l22 N (n + 1) x0 x1 x2 x3 x4 = kB (x4 ≤ 1) (f_X11_lowest_b56 N x0 x1 x2 x3) (kB (x3 = 1) (kO (¬ x4 = 0) (kL (x0 - x0 / x4 * x4) (fun v7 => kB (v7 = 0) (kO (¬ x4 = 0) (kL (x1 - x1 / x4 * x4) (fun v11 => kB (v11 = 0) (kL (x4 + (-1)) (fun v14 => (f_X11_lowest_l22 N n) x0 x1 x2 x4 v14)) (kL (x4 + (-1)) (fun v13 => (f_X11_lowest_l22 N n) x0 x1 x2 x3 v13))))) (kL (x4 + (-1)) (fun v9 => (f_X11_lowest_l22 N n) x0 x1 x2 x3 v9))))) (f_X11_lowest_b56 N x0 x1 x2 x3)) := rfl
noncomputable def f_X11_lowest (N : Nat) (a1 : Int32) (a2 : Int32) (a3 : Int32) : Option Int64 := kB (a2 ≤ 0) (some ((-9223372036854775808))) (kB (a3 < 0) (some ((-9223372036854775808))) (kB (a3 ≤ 1) (f_X11_lowest_l22 N N a1 a2 a3 1 a2) (some ((-9223372036854775808)))))
theorem wv_X11_lowest : zWS RX11 yX11_lowest cX11_lowest 5 (some .long) 3 := ⟨wd_41_1, wd_1_2, wd_41_2, by decide +kernel⟩
def rm_X11_lowest : Room := { frames := 0, cells := 0, slots := 0, locals := 0 }
set_option maxHeartbeats 4000000 in
set_option maxRecDepth 100000 in
theorem c_X11_lowest {l : Launch} {G : va_G} {ct : Nat → ClassId} {N : Nat} {a1 : Int32} {a2 : Int32} {a3 : Int32} {r0 : Int64} (hf : f_X11_lowest N a1 a2 a3 = some r0) : zC l yX11_lowest cX11_lowest 5 (some .long) rm_X11_lowest G ct [.int a1, .int a2, .int a3] [] [] (some (.long r0)) 0 0 := by
  refine z_enter (own := RX11) (lv := [(0, .int a1), (1, .int a2), (2, .int a3)]) (by decide) rfl (Nat.le_of_ble_eq_true rfl) rfl ?_
  intro p e s m args below meth c A E hr hnm
  have B56 : ∀ (x0 : Int32) (x1 : Int32) (x2 : Int32) (x3 : Int32), f_X11_lowest_b56 N x0 x1 x2 x3 = some r0 → zJ p l e rm_X11_lowest s m args below meth c (zQ G ct (some (.long r0)) [] A below args s 0 0) A G 5 0 0 [] [(0, .int x0), (1, .int x1), (2, .int x2), (3, .int x3)] 56 [] := by
    intro x0 x1 x2 x3 hf
    unfold f_X11_lowest_b56 at hf
    refine z_iload_n (pc := 56) (k0 := 2) E dX11_lowest_56 rfl rfl ?_
    refine z_if_ne (pc := 57) (tgt := 64) E dX11_lowest_57 (by decide) (fun c15 => ?_) (fun c15 => ?_)
    · have hf := kB_f hf c15
      refine z_iload_n (pc := 64) (k0 := 1) E dX11_lowest_64 rfl rfl ?_
      refine z_iload_n (pc := 65) (k0 := 3) E dX11_lowest_65 rfl rfl ?_
      obtain ⟨c16, hf⟩ := kO_e hf
      obtain ⟨v17, e_v17, hf⟩ := kL_e hf
      refine z_idiv (pc := 66) (v := v17) E dX11_lowest_66 c16 e_v17 ?_
      obtain ⟨v18, e_v18, hf⟩ := kL_e hf
      refine z_i2l (pc := 67) (v := v18) E dX11_lowest_67 e_v18 ?_
      cases hf
      exact z_lret E hr dX11_lowest_68
    · have hf := kB_t hf c15
      refine z_iload_n (pc := 60) (k0 := 0) E dX11_lowest_60 rfl rfl ?_
      refine z_goto (pc := 61) (tgt := 65) E dX11_lowest_61 (by decide) ?_
      refine z_iload_n (pc := 65) (k0 := 3) E dX11_lowest_65 rfl rfl ?_
      obtain ⟨c19, hf⟩ := kO_e hf
      obtain ⟨v20, e_v20, hf⟩ := kL_e hf
      refine z_idiv (pc := 66) (v := v20) E dX11_lowest_66 c19 e_v20 ?_
      obtain ⟨v21, e_v21, hf⟩ := kL_e hf
      refine z_i2l (pc := 67) (v := v21) E dX11_lowest_67 e_v21 ?_
      cases hf
      exact z_lret E hr dX11_lowest_68
  have L22 : ∀ (n22 : Nat) (x0 : Int32) (x1 : Int32) (x2 : Int32) (x3 : Int32) (x4 : Int32), f_X11_lowest_l22 N n22 x0 x1 x2 x3 x4 = some r0 → zJ p l e rm_X11_lowest s m args below meth c (zQ G ct (some (.long r0)) [] A below args s 0 0) A G 5 0 0 [] [(0, .int x0), (1, .int x1), (2, .int x2), (3, .int x3), (4, .int x4)] 22 [] := by
    intro n22
    induction n22 with
    | zero =>
      intro x0 x1 x2 x3 x4 hf
      rw [f_X11_lowest_l22_z] at hf
      cases hf
    | succ n22 ih22 =>
      intro x0 x1 x2 x3 x4 hf
      rw [f_X11_lowest_l22_s] at hf
      refine z_iload (pc := 22) (k0 := 4) E dX11_lowest_22 rfl ?_
      refine z_iconst (pc := 24) (v := 1) E dX11_lowest_24 (by decide) ?_
      refine z_icmp_le (pc := 25) (tgt := 56) E dX11_lowest_25 (by decide) (fun c4 => ?_) (fun c4 => ?_)
      · have hf := kB_t hf c4
        refine z_sub [0, 1, 2, 3] (lv' := [(0, .int x0), (1, .int x1), (2, .int x2), (3, .int x3)]) rfl ?_
        exact B56 x0 x1 x2 x3 hf
      · have hf := kB_f hf c4
        refine z_iload_n (pc := 28) (k0 := 3) E dX11_lowest_28 rfl rfl ?_
        refine z_iconst (pc := 29) (v := 1) E dX11_lowest_29 (by decide) ?_
        refine z_icmp_ne (pc := 30) (tgt := 56) E dX11_lowest_30 (by decide) (fun c5 => ?_) (fun c5 => ?_)
        · have hf := kB_f hf c5
          refine z_sub [0, 1, 2, 3] (lv' := [(0, .int x0), (1, .int x1), (2, .int x2), (3, .int x3)]) rfl ?_
          exact B56 x0 x1 x2 x3 hf
        · have hf := kB_t hf c5
          refine z_iload_n (pc := 33) (k0 := 0) E dX11_lowest_33 rfl rfl ?_
          refine z_iload (pc := 34) (k0 := 4) E dX11_lowest_34 rfl ?_
          obtain ⟨c6, hf⟩ := kO_e hf
          obtain ⟨v7, e_v7, hf⟩ := kL_e hf
          refine z_irem (pc := 36) (v := v7) E dX11_lowest_36 c6 e_v7 ?_
          refine z_if_ne (pc := 37) (tgt := 50) E dX11_lowest_37 (by decide) (fun c8 => ?_) (fun c8 => ?_)
          · have hf := kB_f hf c8
            obtain ⟨v9, e_v9, hf⟩ := kL_e hf
            refine z_iinc (pc := 50) (k0 := 4) (v := v9) (lv' := [(4, .int v9), (0, .int x0), (1, .int x1), (2, .int x2), (3, .int x3)]) E dX11_lowest_50 rfl e_v9 (by decide) rfl ?_
            refine z_goto (pc := 53) (tgt := 22) E dX11_lowest_53 (by decide) ?_
            refine z_sub [1, 2, 3, 4, 0] (lv' := [(0, .int x0), (1, .int x1), (2, .int x2), (3, .int x3), (4, .int v9)]) rfl ?_
            exact ih22 x0 x1 x2 x3 v9 hf
          · have hf := kB_t hf c8
            refine z_iload_n (pc := 40) (k0 := 1) E dX11_lowest_40 rfl rfl ?_
            refine z_iload (pc := 41) (k0 := 4) E dX11_lowest_41 rfl ?_
            obtain ⟨c10, hf⟩ := kO_e hf
            obtain ⟨v11, e_v11, hf⟩ := kL_e hf
            refine z_irem (pc := 43) (v := v11) E dX11_lowest_43 c10 e_v11 ?_
            refine z_if_ne (pc := 44) (tgt := 50) E dX11_lowest_44 (by decide) (fun c12 => ?_) (fun c12 => ?_)
            · have hf := kB_f hf c12
              obtain ⟨v13, e_v13, hf⟩ := kL_e hf
              refine z_iinc (pc := 50) (k0 := 4) (v := v13) (lv' := [(4, .int v13), (0, .int x0), (1, .int x1), (2, .int x2), (3, .int x3)]) E dX11_lowest_50 rfl e_v13 (by decide) rfl ?_
              refine z_goto (pc := 53) (tgt := 22) E dX11_lowest_53 (by decide) ?_
              refine z_sub [1, 2, 3, 4, 0] (lv' := [(0, .int x0), (1, .int x1), (2, .int x2), (3, .int x3), (4, .int v13)]) rfl ?_
              exact ih22 x0 x1 x2 x3 v13 hf
            · have hf := kB_t hf c12
              refine z_iload (pc := 47) (k0 := 4) E dX11_lowest_47 rfl ?_
              refine z_istore_n (pc := 49) (lv' := [(3, .int x4), (0, .int x0), (1, .int x1), (2, .int x2), (4, .int x4)]) E dX11_lowest_49 rfl (by decide) rfl ?_
              obtain ⟨v14, e_v14, hf⟩ := kL_e hf
              refine z_iinc (pc := 50) (k0 := 4) (v := v14) (lv' := [(4, .int v14), (3, .int x4), (0, .int x0), (1, .int x1), (2, .int x2)]) E dX11_lowest_50 rfl e_v14 (by decide) rfl ?_
              refine z_goto (pc := 53) (tgt := 22) E dX11_lowest_53 (by decide) ?_
              refine z_sub [2, 3, 4, 1, 0] (lv' := [(0, .int x0), (1, .int x1), (2, .int x2), (3, .int x4), (4, .int v14)]) rfl ?_
              exact ih22 x0 x1 x2 x4 v14 hf
  unfold f_X11_lowest at hf
  refine z_iload_n (pc := 0) (k0 := 1) E dX11_lowest_0 rfl rfl ?_
  refine z_if_le (pc := 1) (tgt := 13) E dX11_lowest_1 (by decide) (fun c1 => ?_) (fun c1 => ?_)
  · have hf := kB_t hf c1
    refine z_ldc2 (pc := 13) (v := (-9223372036854775808)) E wd_40_23 dX11_lowest_13 ?_
    cases hf
    exact z_lret E hr dX11_lowest_16
  · have hf := kB_f hf c1
    refine z_iload_n (pc := 4) (k0 := 2) E dX11_lowest_4 rfl rfl ?_
    refine z_if_lt (pc := 5) (tgt := 13) E dX11_lowest_5 (by decide) (fun c2 => ?_) (fun c2 => ?_)
    · have hf := kB_t hf c2
      refine z_ldc2 (pc := 13) (v := (-9223372036854775808)) E wd_40_23 dX11_lowest_13 ?_
      cases hf
      exact z_lret E hr dX11_lowest_16
    · have hf := kB_f hf c2
      refine z_iload_n (pc := 8) (k0 := 2) E dX11_lowest_8 rfl rfl ?_
      refine z_iconst (pc := 9) (v := 1) E dX11_lowest_9 (by decide) ?_
      refine z_icmp_le (pc := 10) (tgt := 17) E dX11_lowest_10 (by decide) (fun c3 => ?_) (fun c3 => ?_)
      · have hf := kB_t hf c3
        refine z_iconst (pc := 17) (v := 1) E dX11_lowest_17 (by decide) ?_
        refine z_istore_n (pc := 18) (lv' := [(3, .int 1), (0, .int a1), (1, .int a2), (2, .int a3)]) E dX11_lowest_18 rfl (by decide) rfl ?_
        refine z_iload_n (pc := 19) (k0 := 2) E dX11_lowest_19 rfl rfl ?_
        refine z_istore (pc := 20) (lv' := [(4, .int a2), (3, .int 1), (0, .int a1), (1, .int a2), (2, .int a3)]) E dX11_lowest_20 (by decide) rfl ?_
        refine z_sub [2, 3, 4, 1, 0] (lv' := [(0, .int a1), (1, .int a2), (2, .int a3), (3, .int 1), (4, .int a2)]) rfl ?_
        exact L22 N a1 a2 a3 1 a2 hf
      · have hf := kB_f hf c3
        refine z_ldc2 (pc := 13) (v := (-9223372036854775808)) E wd_40_23 dX11_lowest_13 ?_
        cases hf
        exact z_lret E hr dX11_lowest_16
noncomputable def f_X11_odds_l33 (N : Nat) (SX : zRS) (SN : zHS) (SK : zHS) (SR : zRS) (SV : (Nat → Nat → Int64)) (SG : (Nat → Int32)) (SY : (Nat → Int32)) (SZ : (Nat → Int32)) (SD : (List (Nat × zPS))) : Nat → zTS → zHS → ((List ((Nat → Nat) × zQS))) → Int32 → Nat → Int32 → Int32 → Option (Int64 × zTS × zHS × ((List ((Nat → Nat) × zQS)))) := fun n => Nat.rec (motive := fun _ => zTS → zHS → ((List ((Nat → Nat) × zQS))) → Int32 → Nat → Int32 → Int32 → Option (Int64 × zTS × zHS × ((List ((Nat → Nat) × zQS))))) (fun _ _ _ _ _ _ _ => none) (fun _ ih ST SH SE x2 x3 x4 x5 => kB ((SN.1 7) ≤ x5) (kC (f_X11_lowest N x4 (SN.1 7) x2) (fun r7 => some (r7, ST, SH, SE))) (kD (f_X10_start N ST SH SN SD) (fun S_9 S_10 => kL (tSI S_9 3 x5) (fun ST_12 => kD4 (f_X10_sleepsAt N ST_12 S_10 SD SE (some x3) (some x3)) (fun r13 S_14 S_15 S_16 => kB (r13 = (-5)) (kL (x5 + 1) (fun v19 => ih S_14 S_15 S_16 x2 x3 x4 v19)) (kL (x4 + 1) (fun v20 => kL (x5 + 1) (fun v21 => ih S_14 S_15 S_16 x2 x3 v20 v21)))))))) n
theorem f_X11_odds_l33_z (N : Nat) (SX : zRS) (SN : zHS) (SK : zHS) (SR : zRS) (SV : (Nat → Nat → Int64)) (SG : (Nat → Int32)) (SY : (Nat → Int32)) (SZ : (Nat → Int32)) (SD : (List (Nat × zPS))) (ST : zTS) (SH : zHS) (SE : (List ((Nat → Nat) × zQS))) (x2 : Int32) (x3 : Nat) (x4 : Int32) (x5 : Int32) : f_X11_odds_l33 N SX SN SK SR SV SG SY SZ SD 0 ST SH SE x2 x3 x4 x5 = none := rfl
theorem f_X11_odds_l33_s (N : Nat) (SX : zRS) (SN : zHS) (SK : zHS) (SR : zRS) (SV : (Nat → Nat → Int64)) (SG : (Nat → Int32)) (SY : (Nat → Int32)) (SZ : (Nat → Int32)) (SD : (List (Nat × zPS))) (n : Nat) (ST : zTS) (SH : zHS) (SE : (List ((Nat → Nat) × zQS))) (x2 : Int32) (x3 : Nat) (x4 : Int32) (x5 : Int32) : f_X11_odds_l33 N SX SN SK SR SV SG SY SZ SD (n + 1) ST SH SE x2 x3 x4 x5 = kB ((SN.1 7) ≤ x5) (kC (f_X11_lowest N x4 (SN.1 7) x2) (fun r7 => some (r7, ST, SH, SE))) (kD (f_X10_start N ST SH SN SD) (fun S_9 S_10 => kL (tSI S_9 3 x5) (fun ST_12 => kD4 (f_X10_sleepsAt N ST_12 S_10 SD SE (some x3) (some x3)) (fun r13 S_14 S_15 S_16 => kB (r13 = (-5)) (kL (x5 + 1) (fun v19 => (f_X11_odds_l33 N SX SN SK SR SV SG SY SZ SD n) S_14 S_15 S_16 x2 x3 x4 v19)) (kL (x4 + 1) (fun v20 => kL (x5 + 1) (fun v21 => (f_X11_odds_l33 N SX SN SK SR SV SG SY SZ SD n) S_14 S_15 S_16 x2 x3 v20 v21))))))) := rfl
noncomputable def f_X11_odds (N : Nat) (SX : zRS) (SN : zHS) (SK : zHS) (ST : zTS) (SH : zHS) (SR : zRS) (SV : (Nat → Nat → Int64)) (SG : (Nat → Int32)) (SY : (Nat → Int32)) (SZ : (Nat → Int32)) (SD : (List (Nat × zPS))) (SE : (List ((Nat → Nat) × zQS))) (a1 : Int32) (a2 : Int32) : Option (Int64 × zTS × zHS × ((List ((Nat → Nat) × zQS)))) := kC (f_X1_person SN a1) (fun r1 => kN r1 (some ((-9223372036854775808), ST, SH, SE)) (fun w3 => kB ((SN.1 7) = 0) (some ((-9223372036854775808), ST, SH, SE)) (f_X11_odds_l33 N SX SN SK SR SV SG SY SZ SD N ST SH SE a2 w3 0 0)))
theorem wv_X11_odds : zWV RX11 yX11_odds cX11_odds 6 (some .long) 2 := ⟨wd_40_20, wd_40_21, wd_1_2, wd_40_22, by decide +kernel⟩
def rm_X11_odds : Room := { frames := 7, cells := 0, slots := 0, locals := 193 }
set_option maxHeartbeats 4000000 in
set_option maxRecDepth 100000 in
theorem c_X11_odds {l : Launch} {G : va_G} {ct : Nat → ClassId} {aX : Nat → Nat} {aN : Nat → Nat} {aK : Nat → Nat} {aT : Nat → Nat} {aH : Nat → Nat} {aR : Nat → Nat} {aV : Nat → Nat} {gG : Nat} {gY : Nat} {gZ : Nat} {N : Nat} {SX : zRS} {SN : zHS} {SK : zHS} {ST : zTS} {SH : zHS} {SR : zRS} {SV : (Nat → Nat → Int64)} {SG : (Nat → Int32)} {SY : (Nat → Int32)} {SZ : (Nat → Int32)} {SD : (List (Nat × zPS))} {SE : (List ((Nat → Nat) × zQS))} {a1 : Int32} {a2 : Int32} {r0 : Int64} {OT : zTS} {OH : zHS} {OE : (List ((Nat → Nat) × zQS))} (hf : f_X11_odds N SX SN SK ST SH SR SV SG SY SZ SD SE a1 a2 = some (r0, OT, OH, OE)) : zC l yX11_odds cX11_odds 6 (some .long) rm_X11_odds G ct [.ref (aX 200), .int a1, .int a2] [wX aX (aN 200) (aK 200) (aT 200) (aR 200) (aV 6) gG gY gZ ct SX, wH aN ct SN, wH aK ct SK, wT aT (aH 200) ct ST, wH aH ct SH, wR aR ct SR, wV aV ct SV, wA gG 21 ct SG, wA gY 5 ct SY, wA gZ 5 ct SZ, wDp gG SD, wDh ct SE] [wX aX (aN 200) (aK 200) (aT 200) (aR 200) (aV 6) gG gY gZ ct SX, wH aN ct SN, wH aK ct SK, wT aT (aH 200) ct OT, wH aH ct OH, wR aR ct SR, wV aV ct SV, wA gG 21 ct SG, wA gY 5 ct SY, wA gZ 5 ct SZ, wDp gG SD, wDh ct OE] (some (.long r0)) 0 0 := by
  refine z_enter (own := RX11) (lv := [(0, .ref (aX 200)), (1, .int a1), (2, .int a2)]) (by decide) rfl (Nat.le_of_ble_eq_true rfl) rfl ?_
  intro p e s m args below meth c A E hr hnm
  have L33 : ∀ (n33 : Nat) (ST : zTS) (SH : zHS) (SE : (List ((Nat → Nat) × zQS))) (x2 : Int32) (x3 : Nat) (x4 : Int32) (x5 : Int32), f_X11_odds_l33 N SX SN SK SR SV SG SY SZ SD n33 ST SH SE x2 x3 x4 x5 = some (r0, OT, OH, OE) → zJ p l e rm_X11_odds s m args below meth c (zQ G ct (some (.long r0)) [wX aX (aN 200) (aK 200) (aT 200) (aR 200) (aV 6) gG gY gZ ct SX, wH aN ct SN, wH aK ct SK, wT aT (aH 200) ct OT, wH aH ct OH, wR aR ct SR, wV aV ct SV, wA gG 21 ct SG, wA gY 5 ct SY, wA gZ 5 ct SZ, wDp gG SD, wDh ct OE] A below args s 0 0) A G 6 0 0 [wX aX (aN 200) (aK 200) (aT 200) (aR 200) (aV 6) gG gY gZ ct SX, wH aN ct SN, wH aK ct SK, wT aT (aH 200) ct ST, wH aH ct SH, wR aR ct SR, wV aV ct SV, wA gG 21 ct SG, wA gY 5 ct SY, wA gZ 5 ct SZ, wDp gG SD, wDh ct SE] [(0, .ref (aX 200)), (2, .int x2), (3, .ref x3), (4, .int x4), (5, .int x5)] 33 [] := by
    intro n33
    induction n33 with
    | zero =>
      intro ST SH SE x2 x3 x4 x5 hf
      rw [f_X11_odds_l33_z] at hf
      cases hf
    | succ n33 ih33 =>
      intro ST SH SE x2 x3 x4 x5 hf
      rw [f_X11_odds_l33_s] at hf
      refine z_iload (pc := 33) (k0 := 4) E dX11_odds_33 rfl ?_
      refine z_aload_n (pc := 35) (k0 := 0) E dX11_odds_35 rfl rfl ?_
      refine gX_0 (pc := 36) (i := 0) E rfl wd_1_16 dX11_odds_36 ?_
      refine gH_7 (pc := 39) (i := 1) E rfl wd_7_3 dX11_odds_39 ?_
      refine z_icmp_ge (pc := 42) (tgt := 88) E dX11_odds_42 (by decide) (fun c6 => ?_) (fun c6 => ?_)
      · have hf := kB_t hf c6
        refine z_iload (pc := 88) (k0 := 3) E dX11_odds_88 rfl ?_
        refine z_aload_n (pc := 90) (k0 := 0) E dX11_odds_90 rfl rfl ?_
        refine gX_0 (pc := 91) (i := 0) E rfl wd_1_16 dX11_odds_91 ?_
        refine gH_7 (pc := 94) (i := 1) E rfl wd_7_3 dX11_odds_94 ?_
        refine z_iload_n (pc := 97) (k0 := 1) E dX11_odds_97 rfl rfl ?_
        obtain ⟨r7, h8, hf⟩ := kC_e hf
        refine z_callS0 (pc := 98) (is := []) (n := 3) (As := [.int x4, .int (SN.1 7), .int x2]) (st := []) (st' := [.long r7]) (C2 := [wX aX (aN 200) (aK 200) (aT 200) (aR 200) (aV 6) gG gY gZ ct SX, wH aN ct SN, wH aK ct SK, wT aT (aH 200) ct ST, wH aH ct SH, wR aR ct SR, wV aV ct SV, wA gG 21 ct SG, wA gY 5 ct SY, wA gZ 5 ct SZ, wDp gG SD, wDh ct SE]) E (c_X11_lowest (l := l) (G := G) (ct := ct)  h8) wv_X11_lowest wd_41_0 ⟨Nat.le_of_ble_eq_true rfl, Nat.le_of_ble_eq_true rfl, Nat.le_of_ble_eq_true rfl, Nat.le_of_ble_eq_true rfl⟩ rfl rfl rfl (by decide) rfl rfl rfl (Nat.le_of_ble_eq_true rfl) dX11_odds_98 rfl rfl ?_
        cases hf
        exact z_lret E hr dX11_odds_101
      · have hf := kB_f hf c6
        refine z_aload_n (pc := 45) (k0 := 0) E dX11_odds_45 rfl rfl ?_
        refine gX_2 (pc := 46) (i := 0) E rfl wd_1_21 dX11_odds_46 ?_
        refine z_aload_n (pc := 49) (k0 := 0) E dX11_odds_49 rfl rfl ?_
        refine gX_0 (pc := 50) (i := 0) E rfl wd_1_16 dX11_odds_50 ?_
        obtain ⟨S_9, S_10, h11, hf⟩ := kD_e hf
        refine z_callV0 (pc := 53) (is := [3, 4, 1, 10]) (n := 1) (As := [.ref (aN 200)]) (st := []) (st' := []) (C2 := [wX aX (aN 200) (aK 200) (aT 200) (aR 200) (aV 6) gG gY gZ ct SX, wH aN ct SN, wH aK ct SK, wT aT (aH 200) ct S_9, wH aH ct S_10, wR aR ct SR, wV aV ct SV, wA gG 21 ct SG, wA gY 5 ct SY, wA gZ 5 ct SZ, wDp gG SD, wDh ct SE]) E (c_X10_start (l := l) (G := G) (ct := ct) (aT := aT) (aH := aH) (aK := aN) (gG := gG) h11) wv_X10_start wd_32_12 ⟨Nat.le_of_ble_eq_true rfl, Nat.le_of_ble_eq_true rfl, Nat.le_of_ble_eq_true rfl, Nat.le_of_ble_eq_true rfl⟩ rfl rfl rfl (by decide) rfl rfl (zrT (j := 0) rfl) rfl (Nat.le_of_ble_eq_true rfl) dX11_odds_53 rfl rfl ?_
        refine z_aload_n (pc := 56) (k0 := 0) E dX11_odds_56 rfl rfl ?_
        refine gX_2 (pc := 57) (i := 0) E rfl wd_1_21 dX11_odds_57 ?_
        refine z_iload (pc := 60) (k0 := 4) E dX11_odds_60 rfl ?_
        obtain ⟨ST_12, e_ST_12, hf⟩ := kL_e hf
        refine pT_3 (pc := 62) (i := 3) (S1 := ST_12) E rfl e_ST_12 wd_38_22 dX11_odds_62 ?_
        show zJ p l e rm_X11_odds s m args below meth c (zQ G ct (some (.long r0)) [wX aX (aN 200) (aK 200) (aT 200) (aR 200) (aV 6) gG gY gZ ct SX, wH aN ct SN, wH aK ct SK, wT aT (aH 200) ct OT, wH aH ct OH, wR aR ct SR, wV aV ct SV, wA gG 21 ct SG, wA gY 5 ct SY, wA gZ 5 ct SZ, wDp gG SD, wDh ct OE] A below args s 0 0) A G 6 0 0 [wX aX (aN 200) (aK 200) (aT 200) (aR 200) (aV 6) gG gY gZ ct SX, wH aN ct SN, wH aK ct SK, wT aT (aH 200) ct ST_12, wH aH ct S_10, wR aR ct SR, wV aV ct SV, wA gG 21 ct SG, wA gY 5 ct SY, wA gZ 5 ct SZ, wDp gG SD, wDh ct SE] [(0, .ref (aX 200)), (2, .int x2), (3, .ref x3), (4, .int x4), (5, .int x5)] 65 []
        refine z_aload_n (pc := 65) (k0 := 0) E dX11_odds_65 rfl rfl ?_
        refine gX_2 (pc := 66) (i := 0) E rfl wd_1_21 dX11_odds_66 ?_
        refine z_aload_n (pc := 69) (k0 := 2) E dX11_odds_69 rfl rfl ?_
        refine z_aload_n (pc := 70) (k0 := 2) E dX11_odds_70 rfl rfl ?_
        obtain ⟨r13, S_14, S_15, S_16, h17, hf⟩ := kD4_e hf
        refine z_callV0 (pc := 71) (is := [3, 4, 10, 11]) (n := 2) (As := [.ref x3, .ref x3]) (st := []) (st' := [.int r13]) (C2 := [wX aX (aN 200) (aK 200) (aT 200) (aR 200) (aV 6) gG gY gZ ct SX, wH aN ct SN, wH aK ct SK, wT aT (aH 200) ct S_14, wH aH ct S_15, wR aR ct SR, wV aV ct SV, wA gG 21 ct SG, wA gY 5 ct SY, wA gZ 5 ct SZ, wDp gG SD, wDh ct S_16]) E (c_X10_sleepsAt (l := l) (G := G) (ct := ct) (aT := aT) (aH := aH) (gG := gG) h17) wv_X10_sleepsAt wd_34_21 ⟨Nat.le_of_ble_eq_true rfl, Nat.le_of_ble_eq_true rfl, Nat.le_of_ble_eq_true rfl, Nat.le_of_ble_eq_true rfl⟩ rfl rfl rfl (by decide) rfl rfl (zrT (j := 0) rfl) rfl (Nat.le_of_ble_eq_true rfl) dX11_odds_71 rfl rfl ?_
        refine z_bipush (pc := 74) (v := (-5)) E dX11_odds_74 (by decide) ?_
        refine z_icmp_eq (pc := 76) (tgt := 82) E dX11_odds_76 (by decide) (fun c18 => ?_) (fun c18 => ?_)
        · have hf := kB_t hf c18
          obtain ⟨v19, e_v19, hf⟩ := kL_e hf
          refine z_iinc (pc := 82) (k0 := 4) (v := v19) (lv' := [(5, .int v19), (0, .ref (aX 200)), (2, .int x2), (3, .ref x3), (4, .int x4)]) E dX11_odds_82 rfl e_v19 (by decide) rfl ?_
          refine z_goto (pc := 85) (tgt := 33) E dX11_odds_85 (by decide) ?_
          refine z_sub [1, 2, 3, 4, 0] (lv' := [(0, .ref (aX 200)), (2, .int x2), (3, .ref x3), (4, .int x4), (5, .int v19)]) rfl ?_
          exact ih33 S_14 S_15 S_16 x2 x3 x4 v19 hf
        · have hf := kB_f hf c18
          obtain ⟨v20, e_v20, hf⟩ := kL_e hf
          refine z_iinc (pc := 79) (k0 := 3) (v := v20) (lv' := [(4, .int v20), (0, .ref (aX 200)), (2, .int x2), (3, .ref x3), (5, .int x5)]) E dX11_odds_79 rfl e_v20 (by decide) rfl ?_
          obtain ⟨v21, e_v21, hf⟩ := kL_e hf
          refine z_iinc (pc := 82) (k0 := 4) (v := v21) (lv' := [(5, .int v21), (4, .int v20), (0, .ref (aX 200)), (2, .int x2), (3, .ref x3)]) E dX11_odds_82 rfl e_v21 (by decide) rfl ?_
          refine z_goto (pc := 85) (tgt := 33) E dX11_odds_85 (by decide) ?_
          refine z_sub [2, 3, 4, 1, 0] (lv' := [(0, .ref (aX 200)), (2, .int x2), (3, .ref x3), (4, .int v20), (5, .int v21)]) rfl ?_
          exact ih33 S_14 S_15 S_16 x2 x3 v20 v21 hf
  unfold f_X11_odds at hf
  refine z_aload_n (pc := 0) (k0 := 0) E dX11_odds_0 rfl rfl ?_
  refine gX_0 (pc := 1) (i := 0) E rfl wd_1_16 dX11_odds_1 ?_
  refine z_iload_n (pc := 4) (k0 := 1) E dX11_odds_4 rfl rfl ?_
  obtain ⟨r1, h2, hf⟩ := kC_e hf
  refine z_callV0 (pc := 5) (is := [1]) (n := 1) (As := [.int a1]) (st := []) (st' := [va_rf r1]) (C2 := [wX aX (aN 200) (aK 200) (aT 200) (aR 200) (aV 6) gG gY gZ ct SX, wH aN ct SN, wH aK ct SK, wT aT (aH 200) ct ST, wH aH ct SH, wR aR ct SR, wV aV ct SV, wA gG 21 ct SG, wA gY 5 ct SY, wA gZ 5 ct SZ, wDp gG SD, wDh ct SE]) E (c_X1_person (l := l) (G := G) (ct := ct) (aH := aN) h2) wv_X1_person wd_11_10 ⟨Nat.le_of_ble_eq_true rfl, Nat.le_of_ble_eq_true rfl, Nat.le_of_ble_eq_true rfl, Nat.le_of_ble_eq_true rfl⟩ rfl rfl rfl (by decide) rfl rfl (zrH (j := 0) rfl) rfl (Nat.le_of_ble_eq_true rfl) dX11_odds_5 rfl rfl ?_
  refine z_qstore_n (pc := 8) (lv' := [(3, va_rf r1), (0, .ref (aX 200)), (1, .int a1), (2, .int a2)]) E dX11_odds_8 rfl (by decide) rfl ?_
  refine z_qload_n (pc := 9) (k0 := 0) E dX11_odds_9 rfl rfl ?_
  refine z_ifnull (pc := 10) (tgt := 23) E dX11_odds_10 (by decide) (fun e4 => ?_) (fun w3 e4 => ?_)
  · have hf := kN_n hf e4
    refine z_ldc2 (pc := 23) (v := (-9223372036854775808)) E wd_40_23 dX11_odds_23 ?_
    cases hf
    exact z_lret E hr dX11_odds_26
  · have hf := kN_s hf e4
    have hf_e4 := hf
    subst e4
    have hf := hf_e4
    refine z_aload_n (pc := 13) (k0 := 1) E dX11_odds_13 rfl rfl ?_
    refine gX_0 (pc := 14) (i := 0) E rfl wd_1_16 dX11_odds_14 ?_
    refine gH_7 (pc := 17) (i := 1) E rfl wd_7_3 dX11_odds_17 ?_
    refine z_if_ne (pc := 20) (tgt := 27) E dX11_odds_20 (by decide) (fun c5 => ?_) (fun c5 => ?_)
    · have hf := kB_f hf c5
      refine z_iconst (pc := 27) (v := 0) E dX11_odds_27 (by decide) ?_
      refine z_istore (pc := 28) (lv' := [(4, .int 0), (3, .ref w3), (0, .ref (aX 200)), (1, .int a1), (2, .int a2)]) E dX11_odds_28 (by decide) rfl ?_
      refine z_iconst (pc := 30) (v := 0) E dX11_odds_30 (by decide) ?_
      refine z_istore (pc := 31) (lv' := [(5, .int 0), (4, .int 0), (3, .ref w3), (0, .ref (aX 200)), (1, .int a1), (2, .int a2)]) E dX11_odds_31 (by decide) rfl ?_
      refine z_sub [3, 5, 2, 1, 0] (lv' := [(0, .ref (aX 200)), (2, .int a2), (3, .ref w3), (4, .int 0), (5, .int 0)]) rfl ?_
      exact L33 N ST SH SE a2 w3 0 0 hf
    · have hf := kB_t hf c5
      refine z_ldc2 (pc := 23) (v := (-9223372036854775808)) E wd_40_23 dX11_odds_23 ?_
      cases hf
      exact z_lret E hr dX11_odds_26
