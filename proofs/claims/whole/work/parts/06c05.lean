noncomputable def f_X11_night (SX : zRS) (SN : zHS) (SK : zHS) (ST : zTS) (SH : zHS) (SR : zRS) (SV : (Nat → Nat → Int64)) (SG : (Nat → Int32)) (SY : (Nat → Int32)) (SZ : (Nat → Int32)) (SD : (List (Nat × zPS))) (SE : (List ((Nat → Nat) × zQS))) : Option (Int32 × zHS) := kB ((SN.1 16) < 9999) (kC (f_X1_how SN) (fun r2 => kC (f_X1_sleepOver SN) (fun S_4 => some (r2, S_4)))) (some ((-3), SN))
theorem wv_X11_night : zWV RX11 yX11_night cX11_night 2 (some .int) 0 := ⟨wd_31_5, wd_31_6, wd_1_2, wd_31_7, by decide +kernel⟩
def rm_X11_night : Room := { frames := 1, cells := 0, slots := 0, locals := 20 }
set_option maxHeartbeats 4000000 in
set_option maxRecDepth 100000 in
theorem c_X11_night {l : Launch} {G : va_G} {ct : Nat → ClassId} {aX : Nat → Nat} {aN : Nat → Nat} {aK : Nat → Nat} {aT : Nat → Nat} {aH : Nat → Nat} {aR : Nat → Nat} {aV : Nat → Nat} {gG : Nat} {gY : Nat} {gZ : Nat} {SX : zRS} {SN : zHS} {SK : zHS} {ST : zTS} {SH : zHS} {SR : zRS} {SV : (Nat → Nat → Int64)} {SG : (Nat → Int32)} {SY : (Nat → Int32)} {SZ : (Nat → Int32)} {SD : (List (Nat × zPS))} {SE : (List ((Nat → Nat) × zQS))} {r0 : Int32} {ON : zHS} (hf : f_X11_night SX SN SK ST SH SR SV SG SY SZ SD SE = some (r0, ON)) : zC l yX11_night cX11_night 2 (some .int) rm_X11_night G ct [.ref (aX 200)] [wX aX (aN 200) (aK 200) (aT 200) (aR 200) (aV 6) gG gY gZ ct SX, wH aN ct SN, wH aK ct SK, wT aT (aH 200) ct ST, wH aH ct SH, wR aR ct SR, wV aV ct SV, wA gG 21 ct SG, wA gY 5 ct SY, wA gZ 5 ct SZ, wDp gG SD, wDh ct SE] [wX aX (aN 200) (aK 200) (aT 200) (aR 200) (aV 6) gG gY gZ ct SX, wH aN ct ON, wH aK ct SK, wT aT (aH 200) ct ST, wH aH ct SH, wR aR ct SR, wV aV ct SV, wA gG 21 ct SG, wA gY 5 ct SY, wA gZ 5 ct SZ, wDp gG SD, wDh ct SE] (some (.int r0)) 0 0 := by
  refine z_enter (own := RX11) (lv := [(0, .ref (aX 200))]) (by decide) rfl (Nat.le_of_ble_eq_true rfl) rfl ?_
  intro p e s m args below meth c A E hr hnm
  unfold f_X11_night at hf
  refine z_aload_n (pc := 0) (k0 := 0) E dX11_night_0 rfl rfl ?_
  refine gX_0 (pc := 1) (i := 0) E rfl wd_1_16 dX11_night_1 ?_
  refine gH_16 (pc := 4) (i := 1) E rfl wd_28_17 dX11_night_4 ?_
  refine z_sipush (pc := 7) (v := 9999) E dX11_night_7 (by decide) ?_
  refine z_icmp_lt (pc := 10) (tgt := 16) E dX11_night_10 (by decide) (fun c1 => ?_) (fun c1 => ?_)
  · have hf := kB_t hf c1
    refine z_aload_n (pc := 16) (k0 := 0) E dX11_night_16 rfl rfl ?_
    refine gX_0 (pc := 17) (i := 0) E rfl wd_1_16 dX11_night_17 ?_
    obtain ⟨r2, h3, hf⟩ := kC_e hf
    refine z_callV0 (pc := 20) (is := [1]) (n := 0) (As := []) (st := []) (st' := [.int r2]) (C2 := [wX aX (aN 200) (aK 200) (aT 200) (aR 200) (aV 6) gG gY gZ ct SX, wH aN ct SN, wH aK ct SK, wT aT (aH 200) ct ST, wH aH ct SH, wR aR ct SR, wV aV ct SV, wA gG 21 ct SG, wA gY 5 ct SY, wA gZ 5 ct SZ, wDp gG SD, wDh ct SE]) E (c_X1_how (l := l) (G := G) (ct := ct) (aH := aN) h3) wv_X1_how wd_29_1 ⟨Nat.le_of_ble_eq_true rfl, Nat.le_of_ble_eq_true rfl, Nat.le_of_ble_eq_true rfl, Nat.le_of_ble_eq_true rfl⟩ rfl rfl rfl (by decide) rfl rfl (zrH (j := 0) rfl) rfl (Nat.le_of_ble_eq_true rfl) dX11_night_20 rfl rfl ?_
    refine z_istore_n (pc := 23) (lv' := [(1, .int r2), (0, .ref (aX 200))]) E dX11_night_23 rfl (by decide) rfl ?_
    refine z_aload_n (pc := 24) (k0 := 1) E dX11_night_24 rfl rfl ?_
    refine gX_0 (pc := 25) (i := 0) E rfl wd_1_16 dX11_night_25 ?_
    obtain ⟨S_4, h5, hf⟩ := kC_e hf
    refine z_callV0 (pc := 28) (is := [1]) (n := 0) (As := []) (st := []) (st' := []) (C2 := [wX aX (aN 200) (aK 200) (aT 200) (aR 200) (aV 6) gG gY gZ ct SX, wH aN ct S_4, wH aK ct SK, wT aT (aH 200) ct ST, wH aH ct SH, wR aR ct SR, wV aV ct SV, wA gG 21 ct SG, wA gY 5 ct SY, wA gZ 5 ct SZ, wDp gG SD, wDh ct SE]) E (c_X1_sleepOver (l := l) (G := G) (ct := ct) (aH := aN) h5) wv_X1_sleepOver wd_31_8 ⟨Nat.le_of_ble_eq_true rfl, Nat.le_of_ble_eq_true rfl, Nat.le_of_ble_eq_true rfl, Nat.le_of_ble_eq_true rfl⟩ rfl rfl rfl (by decide) rfl rfl (zrH (j := 0) rfl) rfl (Nat.le_of_ble_eq_true rfl) dX11_night_28 rfl rfl ?_
    refine z_iload_n (pc := 31) (k0 := 0) E dX11_night_31 rfl rfl ?_
    cases hf
    exact z_iret E hr dX11_night_32
  · have hf := kB_f hf c1
    refine z_bipush (pc := 13) (v := (-3)) E dX11_night_13 (by decide) ?_
    cases hf
    exact z_iret E hr dX11_night_15
noncomputable def f_X11_will_l17 (N : Nat) (SX : zRS) (SN : zHS) (SK : zHS) (ST : zTS) (SH : zHS) (SR : zRS) (SV : (Nat → Nat → Int64)) (SG : (Nat → Int32)) (SY : (Nat → Int32)) (SZ : (Nat → Int32)) (SD : (List (Nat × zPS))) (SE : (List ((Nat → Nat) × zQS))) : Nat → Int32 → Int32 → Int32 → Option Int32 := fun n => Nat.rec (motive := fun _ => Int32 → Int32 → Int32 → Option Int32) (fun _ _ _ => none) (fun _ ih x1 x2 x3 => kB ((SN.1 8) ≤ x3) (some (x2)) (kC (f_X1_person SN x3) (fun r5 => kN r5 (kL (x3 + 1) (fun v9 => ih x1 x2 v9)) (fun w7 => kC (plook SD w7) (fun pv10 => kC (f_v_grants pv10 SN x1) (fun r15 => kB (r15 = 0) (kL (x3 + 1) (fun v19 => ih x1 x2 v19)) (kL ((1 : Int32) <<< (x3 &&& 31)) (fun v20 => kL (x2 ||| v20) (fun v21 => kL (x3 + 1) (fun v22 => ih x1 v21 v22)))))))))) n
theorem f_X11_will_l17_z (N : Nat) (SX : zRS) (SN : zHS) (SK : zHS) (ST : zTS) (SH : zHS) (SR : zRS) (SV : (Nat → Nat → Int64)) (SG : (Nat → Int32)) (SY : (Nat → Int32)) (SZ : (Nat → Int32)) (SD : (List (Nat × zPS))) (SE : (List ((Nat → Nat) × zQS))) (x1 : Int32) (x2 : Int32) (x3 : Int32) : f_X11_will_l17 N SX SN SK ST SH SR SV SG SY SZ SD SE 0 x1 x2 x3 = none := rfl
theorem f_X11_will_l17_s (N : Nat) (SX : zRS) (SN : zHS) (SK : zHS) (ST : zTS) (SH : zHS) (SR : zRS) (SV : (Nat → Nat → Int64)) (SG : (Nat → Int32)) (SY : (Nat → Int32)) (SZ : (Nat → Int32)) (SD : (List (Nat × zPS))) (SE : (List ((Nat → Nat) × zQS))) (n : Nat) (x1 : Int32) (x2 : Int32) (x3 : Int32) : f_X11_will_l17 N SX SN SK ST SH SR SV SG SY SZ SD SE (n + 1) x1 x2 x3 = kB ((SN.1 8) ≤ x3) (some (x2)) (kC (f_X1_person SN x3) (fun r5 => kN r5 (kL (x3 + 1) (fun v9 => (f_X11_will_l17 N SX SN SK ST SH SR SV SG SY SZ SD SE n) x1 x2 v9)) (fun w7 => kC (plook SD w7) (fun pv10 => kC (f_v_grants pv10 SN x1) (fun r15 => kB (r15 = 0) (kL (x3 + 1) (fun v19 => (f_X11_will_l17 N SX SN SK ST SH SR SV SG SY SZ SD SE n) x1 x2 v19)) (kL ((1 : Int32) <<< (x3 &&& 31)) (fun v20 => kL (x2 ||| v20) (fun v21 => kL (x3 + 1) (fun v22 => (f_X11_will_l17 N SX SN SK ST SH SR SV SG SY SZ SD SE n) x1 v21 v22))))))))) := rfl
noncomputable def f_X11_will (N : Nat) (SX : zRS) (SN : zHS) (SK : zHS) (ST : zTS) (SH : zHS) (SR : zRS) (SV : (Nat → Nat → Int64)) (SG : (Nat → Int32)) (SY : (Nat → Int32)) (SZ : (Nat → Int32)) (SD : (List (Nat × zPS))) (SE : (List ((Nat → Nat) × zQS))) (a1 : Int32) : Option Int32 := kC (f_X1_has SN a1) (fun r1 => kB (r1 = 0) (some ((-1))) (f_X11_will_l17 N SX SN SK ST SH SR SV SG SY SZ SD SE N a1 0 0))
theorem wv_X11_will : zWV RX11 yX11_will cX11_will 5 (some .int) 1 := ⟨wd_31_23, wd_32_0, wd_1_2, wd_32_1, by decide +kernel⟩
def rm_X11_will : Room := { frames := 4, cells := 0, slots := 0, locals := 87 }
set_option maxHeartbeats 4000000 in
set_option maxRecDepth 100000 in
theorem c_X11_will {l : Launch} {G : va_G} {ct : Nat → ClassId} {aX : Nat → Nat} {aN : Nat → Nat} {aK : Nat → Nat} {aT : Nat → Nat} {aH : Nat → Nat} {aR : Nat → Nat} {aV : Nat → Nat} {gG : Nat} {gY : Nat} {gZ : Nat} {N : Nat} {SX : zRS} {SN : zHS} {SK : zHS} {ST : zTS} {SH : zHS} {SR : zRS} {SV : (Nat → Nat → Int64)} {SG : (Nat → Int32)} {SY : (Nat → Int32)} {SZ : (Nat → Int32)} {SD : (List (Nat × zPS))} {SE : (List ((Nat → Nat) × zQS))} {a1 : Int32} {r0 : Int32} (hf : f_X11_will N SX SN SK ST SH SR SV SG SY SZ SD SE a1 = some r0) : zC l yX11_will cX11_will 5 (some .int) rm_X11_will G ct [.ref (aX 200), .int a1] [wX aX (aN 200) (aK 200) (aT 200) (aR 200) (aV 6) gG gY gZ ct SX, wH aN ct SN, wH aK ct SK, wT aT (aH 200) ct ST, wH aH ct SH, wR aR ct SR, wV aV ct SV, wA gG 21 ct SG, wA gY 5 ct SY, wA gZ 5 ct SZ, wDp gG SD, wDh ct SE] [wX aX (aN 200) (aK 200) (aT 200) (aR 200) (aV 6) gG gY gZ ct SX, wH aN ct SN, wH aK ct SK, wT aT (aH 200) ct ST, wH aH ct SH, wR aR ct SR, wV aV ct SV, wA gG 21 ct SG, wA gY 5 ct SY, wA gZ 5 ct SZ, wDp gG SD, wDh ct SE] (some (.int r0)) 0 0 := by
  refine z_enter (own := RX11) (lv := [(0, .ref (aX 200)), (1, .int a1)]) (by decide) rfl (Nat.le_of_ble_eq_true rfl) rfl ?_
  intro p e s m args below meth c A E hr hnm
  have L17 : ∀ (n17 : Nat) (x1 : Int32) (x2 : Int32) (x3 : Int32), f_X11_will_l17 N SX SN SK ST SH SR SV SG SY SZ SD SE n17 x1 x2 x3 = some r0 → zJ p l e rm_X11_will s m args below meth c (zQ G ct (some (.int r0)) [wX aX (aN 200) (aK 200) (aT 200) (aR 200) (aV 6) gG gY gZ ct SX, wH aN ct SN, wH aK ct SK, wT aT (aH 200) ct ST, wH aH ct SH, wR aR ct SR, wV aV ct SV, wA gG 21 ct SG, wA gY 5 ct SY, wA gZ 5 ct SZ, wDp gG SD, wDh ct SE] A below args s 0 0) A G 5 0 0 [wX aX (aN 200) (aK 200) (aT 200) (aR 200) (aV 6) gG gY gZ ct SX, wH aN ct SN, wH aK ct SK, wT aT (aH 200) ct ST, wH aH ct SH, wR aR ct SR, wV aV ct SV, wA gG 21 ct SG, wA gY 5 ct SY, wA gZ 5 ct SZ, wDp gG SD, wDh ct SE] [(0, .ref (aX 200)), (1, .int x1), (2, .int x2), (3, .int x3)] 17 [] := by
    intro n17
    induction n17 with
    | zero =>
      intro x1 x2 x3 hf
      rw [f_X11_will_l17_z] at hf
      cases hf
    | succ n17 ih17 =>
      intro x1 x2 x3 hf
      rw [f_X11_will_l17_s] at hf
      refine z_iload_n (pc := 17) (k0 := 3) E dX11_will_17 rfl rfl ?_
      refine z_aload_n (pc := 18) (k0 := 0) E dX11_will_18 rfl rfl ?_
      refine gX_0 (pc := 19) (i := 0) E rfl wd_1_16 dX11_will_19 ?_
      refine gH_8 (pc := 22) (i := 1) E rfl wd_7_19 dX11_will_22 ?_
      refine z_icmp_ge (pc := 25) (tgt := 68) E dX11_will_25 (by decide) (fun c4 => ?_) (fun c4 => ?_)
      · have hf := kB_t hf c4
        refine z_iload_n (pc := 68) (k0 := 2) E dX11_will_68 rfl rfl ?_
        cases hf
        exact z_iret E hr dX11_will_69
      · have hf := kB_f hf c4
        refine z_aload_n (pc := 28) (k0 := 0) E dX11_will_28 rfl rfl ?_
        refine gX_0 (pc := 29) (i := 0) E rfl wd_1_16 dX11_will_29 ?_
        refine z_iload_n (pc := 32) (k0 := 3) E dX11_will_32 rfl rfl ?_
        obtain ⟨r5, h6, hf⟩ := kC_e hf
        refine z_callV0 (pc := 33) (is := [1]) (n := 1) (As := [.int x3]) (st := []) (st' := [va_rf r5]) (C2 := [wX aX (aN 200) (aK 200) (aT 200) (aR 200) (aV 6) gG gY gZ ct SX, wH aN ct SN, wH aK ct SK, wT aT (aH 200) ct ST, wH aH ct SH, wR aR ct SR, wV aV ct SV, wA gG 21 ct SG, wA gY 5 ct SY, wA gZ 5 ct SZ, wDp gG SD, wDh ct SE]) E (c_X1_person (l := l) (G := G) (ct := ct) (aH := aN) h6) wv_X1_person wd_11_10 ⟨Nat.le_of_ble_eq_true rfl, Nat.le_of_ble_eq_true rfl, Nat.le_of_ble_eq_true rfl, Nat.le_of_ble_eq_true rfl⟩ rfl rfl rfl (by decide) rfl rfl (zrH (j := 0) rfl) rfl (Nat.le_of_ble_eq_true rfl) dX11_will_33 rfl rfl ?_
        refine z_qstore (pc := 36) (lv' := [(4, va_rf r5), (0, .ref (aX 200)), (1, .int x1), (2, .int x2), (3, .int x3)]) E dX11_will_36 (by decide) rfl ?_
        refine z_qload (pc := 38) (k0 := 0) E dX11_will_38 rfl ?_
        refine z_ifnull (pc := 40) (tgt := 62) E dX11_will_40 (by decide) (fun e8 => ?_) (fun w7 e8 => ?_)
        · have hf := kN_n hf e8
          obtain ⟨v9, e_v9, hf⟩ := kL_e hf
          refine z_iinc (pc := 62) (k0 := 4) (v := v9) (lv' := [(3, .int v9), (4, va_rf r5), (0, .ref (aX 200)), (1, .int x1), (2, .int x2)]) E dX11_will_62 rfl e_v9 (by decide) rfl ?_
          refine z_goto (pc := 65) (tgt := 17) E dX11_will_65 (by decide) ?_
          refine z_sub [2, 3, 4, 0] (lv' := [(0, .ref (aX 200)), (1, .int x1), (2, .int x2), (3, .int v9)]) rfl ?_
          exact ih17 x1 x2 v9 hf
        · have hf := kN_s hf e8
          have hf_e8 := hf
          subst e8
          have hf := hf_e8
          refine z_aload (pc := 43) (k0 := 0) E dX11_will_43 rfl ?_
          refine z_aload_n (pc := 45) (k0 := 1) E dX11_will_45 rfl rfl ?_
          refine gX_0 (pc := 46) (i := 0) E rfl wd_1_16 dX11_will_46 ?_
          refine z_iload_n (pc := 49) (k0 := 2) E dX11_will_49 rfl rfl ?_
          obtain ⟨pv10, hp11, hf⟩ := kC_e hf
          obtain ⟨DA12, DB13, eD14⟩ := wDp_at (g := gG) hp11
          obtain ⟨r15, h16, hf⟩ := kC_e hf
          refine z_world (Cs' := [wX aX (aN 200) (aK 200) (aT 200) (aR 200) (aV 6) gG gY gZ ct SX, wH aN ct SN, wH aK ct SK, wT aT (aH 200) ct ST, wH aH ct SH, wR aR ct SR, wV aV ct SV, wA gG 21 ct SG, wA gY 5 ct SY, wA gZ 5 ct SZ, DA12, wPa gG w7 pv10, DB13, wDh ct SE]) (by rw [eD14]; simp [zfl]) ?_
          have K17 : zJ p l e rm_X11_will s m args below meth c (zQ G ct (some (.int r0)) [wX aX (aN 200) (aK 200) (aT 200) (aR 200) (aV 6) gG gY gZ ct SX, wH aN ct SN, wH aK ct SK, wT aT (aH 200) ct ST, wH aH ct SH, wR aR ct SR, wV aV ct SV, wA gG 21 ct SG, wA gY 5 ct SY, wA gZ 5 ct SZ, wDp gG SD, wDh ct SE] A below args s 0 0) A G 5 0 0 [wX aX (aN 200) (aK 200) (aT 200) (aR 200) (aV 6) gG gY gZ ct SX, wH aN ct SN, wH aK ct SK, wT aT (aH 200) ct ST, wH aH ct SH, wR aR ct SR, wV aV ct SV, wA gG 21 ct SG, wA gY 5 ct SY, wA gZ 5 ct SZ, wDp gG SD, wDh ct SE] [(4, .ref w7), (0, .ref (aX 200)), (1, .int x1), (2, .int x2), (3, .int x3)] 53 [.int r15] := by
            refine z_if_eq (pc := 53) (tgt := 62) E dX11_will_53 (by decide) (fun c18 => ?_) (fun c18 => ?_)
            · have hf := kB_t hf c18
              obtain ⟨v19, e_v19, hf⟩ := kL_e hf
              refine z_iinc (pc := 62) (k0 := 4) (v := v19) (lv' := [(3, .int v19), (4, .ref w7), (0, .ref (aX 200)), (1, .int x1), (2, .int x2)]) E dX11_will_62 rfl e_v19 (by decide) rfl ?_
              refine z_goto (pc := 65) (tgt := 17) E dX11_will_65 (by decide) ?_
              refine z_sub [2, 3, 4, 0] (lv' := [(0, .ref (aX 200)), (1, .int x1), (2, .int x2), (3, .int v19)]) rfl ?_
              exact ih17 x1 x2 v19 hf
            · have hf := kB_f hf c18
              refine z_iload_n (pc := 56) (k0 := 3) E dX11_will_56 rfl rfl ?_
              refine z_iconst (pc := 57) (v := 1) E dX11_will_57 (by decide) ?_
              refine z_iload_n (pc := 58) (k0 := 4) E dX11_will_58 rfl rfl ?_
              obtain ⟨v20, e_v20, hf⟩ := kL_e hf
              refine z_ishl (pc := 59) (v := v20) E dX11_will_59 e_v20 ?_
              obtain ⟨v21, e_v21, hf⟩ := kL_e hf
              refine z_ior (pc := 60) (v := v21) E dX11_will_60 e_v21 ?_
              refine z_istore_n (pc := 61) (lv' := [(2, .int v21), (4, .ref w7), (0, .ref (aX 200)), (1, .int x1), (3, .int x3)]) E dX11_will_61 rfl (by decide) rfl ?_
              obtain ⟨v22, e_v22, hf⟩ := kL_e hf
              refine z_iinc (pc := 62) (k0 := 4) (v := v22) (lv' := [(3, .int v22), (2, .int v21), (4, .ref w7), (0, .ref (aX 200)), (1, .int x1)]) E dX11_will_62 rfl e_v22 (by decide) rfl ?_
              refine z_goto (pc := 65) (tgt := 17) E dX11_will_65 (by decide) ?_
              refine z_sub [3, 4, 1, 0] (lv' := [(0, .ref (aX 200)), (1, .int x1), (2, .int v21), (3, .int v22)]) rfl ?_
              exact ih17 x1 v21 v22 hf
          by_cases k23 : pv10.1 = 1
          · have h16 := f_v_grants_1 k23 h16
            refine z_callO (x := ⟨"MoreStory$Parent", "grants", "(LMoreStory$Home;I)Z"⟩) (owner := "MoreStory$Parent") (pc := 50) (is := [11, 1]) (n := 2) (As := [.ref (aN 200), .int x1]) (st := []) (st' := [.int r15]) (C2 := [wX aX (aN 200) (aK 200) (aT 200) (aR 200) (aV 6) gG gY gZ ct SX, wH aN ct SN, wH aK ct SK, wT aT (aH 200) ct ST, wH aH ct SH, wR aR ct SR, wV aV ct SV, wA gG 21 ct SG, wA gY 5 ct SY, wA gZ 5 ct SZ, DA12, wPa gG w7 pv10, DB13, wDh ct SE]) E (c_X6_grants (l := l) (G := G) (ct := ct) (gG := gG) (aP := w7) (aH := aN) h16) wd_11_15 wd_11_16 wd_11_17 wd_13_8 wd_13_0 wd_8_4 wd_13_1 wd_12_11 ⟨by decide, by decide, by decide +kernel⟩ ⟨Nat.le_of_ble_eq_true rfl, Nat.le_of_ble_eq_true rfl, Nat.le_of_ble_eq_true rfl, Nat.le_of_ble_eq_true rfl⟩ rfl rfl rfl (by decide) rfl rfl (zrP6 k23 (j := 0) rfl) rfl (Nat.le_of_ble_eq_true rfl) dX11_will_50 rfl rfl ?_
            refine z_world (Cs' := [wX aX (aN 200) (aK 200) (aT 200) (aR 200) (aV 6) gG gY gZ ct SX, wH aN ct SN, wH aK ct SK, wT aT (aH 200) ct ST, wH aH ct SH, wR aR ct SR, wV aV ct SV, wA gG 21 ct SG, wA gY 5 ct SY, wA gZ 5 ct SZ, wDp gG SD, wDh ct SE]) (by rw [eD14]; simp [zfl]) ?_
            exact K17
          by_cases k24 : pv10.1 = 2
          · have h16 := f_v_grants_2 k24 h16
            refine z_callO (x := ⟨"MoreStory$Parent", "grants", "(LMoreStory$Home;I)Z"⟩) (owner := "MoreStory$Parent") (pc := 50) (is := [11, 1]) (n := 2) (As := [.ref (aN 200), .int x1]) (st := []) (st' := [.int r15]) (C2 := [wX aX (aN 200) (aK 200) (aT 200) (aR 200) (aV 6) gG gY gZ ct SX, wH aN ct SN, wH aK ct SK, wT aT (aH 200) ct ST, wH aH ct SH, wR aR ct SR, wV aV ct SV, wA gG 21 ct SG, wA gY 5 ct SY, wA gZ 5 ct SZ, DA12, wPa gG w7 pv10, DB13, wDh ct SE]) E (c_X7_grants (l := l) (G := G) (ct := ct) (gG := gG) (aP := w7) (aH := aN) h16) wd_11_15 wd_11_16 wd_11_17 wd_13_9 wd_12_3 wd_8_7 wd_12_4 wd_12_11 ⟨by decide, by decide, by decide +kernel⟩ ⟨Nat.le_of_ble_eq_true rfl, Nat.le_of_ble_eq_true rfl, Nat.le_of_ble_eq_true rfl, Nat.le_of_ble_eq_true rfl⟩ rfl rfl rfl (by decide) rfl rfl (zrP7 k24 (j := 0) rfl) rfl (Nat.le_of_ble_eq_true rfl) dX11_will_50 rfl rfl ?_
            refine z_world (Cs' := [wX aX (aN 200) (aK 200) (aT 200) (aR 200) (aV 6) gG gY gZ ct SX, wH aN ct SN, wH aK ct SK, wT aT (aH 200) ct ST, wH aH ct SH, wR aR ct SR, wV aV ct SV, wA gG 21 ct SG, wA gY 5 ct SY, wA gZ 5 ct SZ, wDp gG SD, wDh ct SE]) (by rw [eD14]; simp [zfl]) ?_
            exact K17
          by_cases k25 : pv10.1 = 3
          · have h16 := f_v_grants_3 k25 h16
            refine z_callO (x := ⟨"MoreStory$Parent", "grants", "(LMoreStory$Home;I)Z"⟩) (owner := "MoreStory$Parent") (pc := 50) (is := [11, 1]) (n := 2) (As := [.ref (aN 200), .int x1]) (st := []) (st' := [.int r15]) (C2 := [wX aX (aN 200) (aK 200) (aT 200) (aR 200) (aV 6) gG gY gZ ct SX, wH aN ct SN, wH aK ct SK, wT aT (aH 200) ct ST, wH aH ct SH, wR aR ct SR, wV aV ct SV, wA gG 21 ct SG, wA gY 5 ct SY, wA gZ 5 ct SZ, DA12, wPa gG w7 pv10, DB13, wDh ct SE]) E (c_X8_grants (l := l) (G := G) (ct := ct) (gG := gG) (aP := w7) (aH := aN) h16) wd_11_15 wd_11_16 wd_11_17 wd_13_10 wd_13_11 wd_8_10 wd_13_12 wd_12_11 ⟨by decide, by decide, by decide +kernel⟩ ⟨Nat.le_of_ble_eq_true rfl, Nat.le_of_ble_eq_true rfl, Nat.le_of_ble_eq_true rfl, Nat.le_of_ble_eq_true rfl⟩ rfl rfl rfl (by decide) rfl rfl (zrP8 k25 (j := 0) rfl) rfl (Nat.le_of_ble_eq_true rfl) dX11_will_50 rfl rfl ?_
            refine z_world (Cs' := [wX aX (aN 200) (aK 200) (aT 200) (aR 200) (aV 6) gG gY gZ ct SX, wH aN ct SN, wH aK ct SK, wT aT (aH 200) ct ST, wH aH ct SH, wR aR ct SR, wV aV ct SV, wA gG 21 ct SG, wA gY 5 ct SY, wA gZ 5 ct SZ, wDp gG SD, wDh ct SE]) (by rw [eD14]; simp [zfl]) ?_
            exact K17
          by_cases k26 : pv10.1 = 4
          · have h16 := f_v_grants_4 k26 h16
            refine z_callO (x := ⟨"MoreStory$Parent", "grants", "(LMoreStory$Home;I)Z"⟩) (owner := "MoreStory$Parent") (pc := 50) (is := [11, 1]) (n := 2) (As := [.ref (aN 200), .int x1]) (st := []) (st' := [.int r15]) (C2 := [wX aX (aN 200) (aK 200) (aT 200) (aR 200) (aV 6) gG gY gZ ct SX, wH aN ct SN, wH aK ct SK, wT aT (aH 200) ct ST, wH aH ct SH, wR aR ct SR, wV aV ct SV, wA gG 21 ct SG, wA gY 5 ct SY, wA gZ 5 ct SZ, DA12, wPa gG w7 pv10, DB13, wDh ct SE]) E (c_X3_grants (l := l) (G := G) (ct := ct) (gG := gG) (aP := w7) (aH := aN) h16) wd_11_15 wd_11_16 wd_11_17 wd_12_17 wd_12_18 wd_8_13 wd_12_19 wd_12_11 ⟨by decide, by decide, by decide +kernel⟩ ⟨Nat.le_of_ble_eq_true rfl, Nat.le_of_ble_eq_true rfl, Nat.le_of_ble_eq_true rfl, Nat.le_of_ble_eq_true rfl⟩ rfl rfl rfl (by decide) rfl rfl (zrP3 k26 (j := 0) rfl) rfl (Nat.le_of_ble_eq_true rfl) dX11_will_50 rfl rfl ?_
            refine z_world (Cs' := [wX aX (aN 200) (aK 200) (aT 200) (aR 200) (aV 6) gG gY gZ ct SX, wH aN ct SN, wH aK ct SK, wT aT (aH 200) ct ST, wH aH ct SH, wR aR ct SR, wV aV ct SV, wA gG 21 ct SG, wA gY 5 ct SY, wA gZ 5 ct SZ, wDp gG SD, wDh ct SE]) (by rw [eD14]; simp [zfl]) ?_
            exact K17
          by_cases k27 : pv10.1 = 5
          · have h16 := f_v_grants_5 k27 h16
            refine z_callO (x := ⟨"MoreStory$Parent", "grants", "(LMoreStory$Home;I)Z"⟩) (owner := "MoreStory$Parent") (pc := 50) (is := [11, 1]) (n := 2) (As := [.ref (aN 200), .int x1]) (st := []) (st' := [.int r15]) (C2 := [wX aX (aN 200) (aK 200) (aT 200) (aR 200) (aV 6) gG gY gZ ct SX, wH aN ct SN, wH aK ct SK, wT aT (aH 200) ct ST, wH aH ct SH, wR aR ct SR, wV aV ct SV, wA gG 21 ct SG, wA gY 5 ct SY, wA gZ 5 ct SZ, DA12, wPa gG w7 pv10, DB13, wDh ct SE]) E (c_X0_grants (l := l) (G := G) (ct := ct) (gG := gG) (aP := w7) (aH := aN) h16) wd_11_15 wd_11_16 wd_11_17 wd_11_18 wd_11_19 wd_8_16 wd_11_20 wd_12_11 ⟨by decide, by decide, by decide +kernel⟩ ⟨Nat.le_of_ble_eq_true rfl, Nat.le_of_ble_eq_true rfl, Nat.le_of_ble_eq_true rfl, Nat.le_of_ble_eq_true rfl⟩ rfl rfl rfl (by decide) rfl rfl (zrP0 k27 (j := 0) rfl) rfl (Nat.le_of_ble_eq_true rfl) dX11_will_50 rfl rfl ?_
            refine z_world (Cs' := [wX aX (aN 200) (aK 200) (aT 200) (aR 200) (aV 6) gG gY gZ ct SX, wH aN ct SN, wH aK ct SK, wT aT (aH 200) ct ST, wH aH ct SH, wR aR ct SR, wV aV ct SV, wA gG 21 ct SG, wA gY 5 ct SY, wA gZ 5 ct SZ, wDp gG SD, wDh ct SE]) (by rw [eD14]; simp [zfl]) ?_
            exact K17
          by_cases k28 : pv10.1 = 6
          · have h16 := f_v_grants_6 k28 h16
            refine z_callO (x := ⟨"MoreStory$Parent", "grants", "(LMoreStory$Home;I)Z"⟩) (owner := "MoreStory$Parent") (pc := 50) (is := [11, 1]) (n := 2) (As := [.ref (aN 200), .int x1]) (st := []) (st' := [.int r15]) (C2 := [wX aX (aN 200) (aK 200) (aT 200) (aR 200) (aV 6) gG gY gZ ct SX, wH aN ct SN, wH aK ct SK, wT aT (aH 200) ct ST, wH aH ct SH, wR aR ct SR, wV aV ct SV, wA gG 21 ct SG, wA gY 5 ct SY, wA gZ 5 ct SZ, DA12, wPa gG w7 pv10, DB13, wDh ct SE]) E (c_X9_grants (l := l) (G := G) (ct := ct) (gG := gG) (aP := w7) (aH := aN) h16) wd_11_15 wd_11_16 wd_11_17 wd_13_17 wd_13_18 wd_8_19 wd_13_19 wd_12_11 ⟨by decide, by decide, by decide +kernel⟩ ⟨Nat.le_of_ble_eq_true rfl, Nat.le_of_ble_eq_true rfl, Nat.le_of_ble_eq_true rfl, Nat.le_of_ble_eq_true rfl⟩ rfl rfl rfl (by decide) rfl rfl (zrP9 k28 (j := 0) rfl) rfl (Nat.le_of_ble_eq_true rfl) dX11_will_50 rfl rfl ?_
            refine z_world (Cs' := [wX aX (aN 200) (aK 200) (aT 200) (aR 200) (aV 6) gG gY gZ ct SX, wH aN ct SN, wH aK ct SK, wT aT (aH 200) ct ST, wH aH ct SH, wR aR ct SR, wV aV ct SV, wA gG 21 ct SG, wA gY 5 ct SY, wA gZ 5 ct SZ, wDp gG SD, wDh ct SE]) (by rw [eD14]; simp [zfl]) ?_
            exact K17
          have h16 := f_v_grants_e k23 k24 k25 k26 k27 k28 h16
          refine z_callV0 (pc := 50) (is := [11, 1]) (n := 2) (As := [.ref (aN 200), .int x1]) (st := []) (st' := [.int r15]) (C2 := [wX aX (aN 200) (aK 200) (aT 200) (aR 200) (aV 6) gG gY gZ ct SX, wH aN ct SN, wH aK ct SK, wT aT (aH 200) ct ST, wH aH ct SH, wR aR ct SR, wV aV ct SV, wA gG 21 ct SG, wA gY 5 ct SY, wA gZ 5 ct SZ, DA12, wPa gG w7 pv10, DB13, wDh ct SE]) E (c_X4_grants (l := l) (G := G) (ct := ct) (gG := gG) (aP := w7) (aH := aN) h16) wv_X4_grants wd_13_6 ⟨Nat.le_of_ble_eq_true rfl, Nat.le_of_ble_eq_true rfl, Nat.le_of_ble_eq_true rfl, Nat.le_of_ble_eq_true rfl⟩ rfl rfl rfl (by decide) rfl rfl (zrP4 k23 k24 k25 k26 k27 k28 (j := 0) rfl) rfl (Nat.le_of_ble_eq_true rfl) dX11_will_50 rfl rfl ?_
          refine z_world (Cs' := [wX aX (aN 200) (aK 200) (aT 200) (aR 200) (aV 6) gG gY gZ ct SX, wH aN ct SN, wH aK ct SK, wT aT (aH 200) ct ST, wH aH ct SH, wR aR ct SR, wV aV ct SV, wA gG 21 ct SG, wA gY 5 ct SY, wA gZ 5 ct SZ, wDp gG SD, wDh ct SE]) (by rw [eD14]; simp [zfl]) ?_
          exact K17
  unfold f_X11_will at hf
  refine z_aload_n (pc := 0) (k0 := 0) E dX11_will_0 rfl rfl ?_
  refine gX_0 (pc := 1) (i := 0) E rfl wd_1_16 dX11_will_1 ?_
  refine z_iload_n (pc := 4) (k0 := 1) E dX11_will_4 rfl rfl ?_
  obtain ⟨r1, h2, hf⟩ := kC_e hf
  refine z_callV0 (pc := 5) (is := [1]) (n := 1) (As := [.int a1]) (st := []) (st' := [.int r1]) (C2 := [wX aX (aN 200) (aK 200) (aT 200) (aR 200) (aV 6) gG gY gZ ct SX, wH aN ct SN, wH aK ct SK, wT aT (aH 200) ct ST, wH aH ct SH, wR aR ct SR, wV aV ct SV, wA gG 21 ct SG, wA gY 5 ct SY, wA gZ 5 ct SZ, wDp gG SD, wDh ct SE]) E (c_X1_has (l := l) (G := G) (ct := ct) (aH := aN) h2) wv_X1_has wd_10_15 ⟨Nat.le_of_ble_eq_true rfl, Nat.le_of_ble_eq_true rfl, Nat.le_of_ble_eq_true rfl, Nat.le_of_ble_eq_true rfl⟩ rfl rfl rfl (by decide) rfl rfl (zrH (j := 0) rfl) rfl (Nat.le_of_ble_eq_true rfl) dX11_will_5 rfl rfl ?_
  refine z_if_ne (pc := 8) (tgt := 13) E dX11_will_8 (by decide) (fun c3 => ?_) (fun c3 => ?_)
  · have hf := kB_f hf c3
    refine z_iconst (pc := 13) (v := 0) E dX11_will_13 (by decide) ?_
    refine z_istore_n (pc := 14) (lv' := [(2, .int 0), (0, .ref (aX 200)), (1, .int a1)]) E dX11_will_14 rfl (by decide) rfl ?_
    refine z_iconst (pc := 15) (v := 0) E dX11_will_15 (by decide) ?_
    refine z_istore_n (pc := 16) (lv' := [(3, .int 0), (2, .int 0), (0, .ref (aX 200)), (1, .int a1)]) E dX11_will_16 rfl (by decide) rfl ?_
    refine z_sub [2, 3, 1, 0] (lv' := [(0, .ref (aX 200)), (1, .int a1), (2, .int 0), (3, .int 0)]) rfl ?_
    exact L17 N a1 0 0 hf
  · have hf := kB_t hf c3
    refine z_iconst (pc := 11) (v := (-1)) E dX11_will_11 (by decide) ?_
    cases hf
    exact z_iret E hr dX11_will_12
noncomputable def f_X11_on (N : Nat) (SX : zRS) (SN : zHS) (SK : zHS) (ST : zTS) (SH : zHS) (SR : zRS) (SV : (Nat → Nat → Int64)) (SG : (Nat → Int32)) (SY : (Nat → Int32)) (SZ : (Nat → Int32)) (SD : (List (Nat × zPS))) (SE : (List ((Nat → Nat) × zQS))) (a1 : Int32) (a2 : Int32) (a3 : Int32) : Option (Int32 × zTS × zHS × ((List ((Nat → Nat) × zQS)))) := kC (f_X1_person SN a1) (fun r1 => kN r1 (some ((-1), ST, SH, SE)) (fun w3 => kB (a3 < 0) (some ((-1), ST, SH, SE)) (kB (a3 ≤ 4) (kB (a2 < 0) (some ((-2), ST, SH, SE)) (kB (a2 ≤ 60) (kD (f_X10_start N ST SH SN SD) (fun S_9 S_10 => kD3 (f_X10_run N S_9 S_10 SD SE (some w3) (some w3) a2) (fun S_12 S_13 S_14 => kB (a3 = 0) (some ((S_13.1 11), S_12, S_13, S_14)) (kB (a3 = 1) (some ((S_13.1 12), S_12, S_13, S_14)) (kB (a3 = 2) (some ((S_13.1 14), S_12, S_13, S_14)) (kB (a3 = 3) (some ((S_12.1 5), S_12, S_13, S_14)) (kC (f_X1_how S_13) (fun r20 => some (r20, S_12, S_13, S_14))))))))) (some ((-2), ST, SH, SE)))) (some ((-1), ST, SH, SE)))))
theorem wv_X11_on : zWV RX11 yX11_on cX11_on 5 (some .int) 3 := ⟨wd_32_7, wd_32_8, wd_1_2, wd_32_9, by decide +kernel⟩
def rm_X11_on : Room := { frames := 6, cells := 0, slots := 0, locals := 171 }
set_option maxHeartbeats 4000000 in
set_option maxRecDepth 100000 in
theorem c_X11_on {l : Launch} {G : va_G} {ct : Nat → ClassId} {aX : Nat → Nat} {aN : Nat → Nat} {aK : Nat → Nat} {aT : Nat → Nat} {aH : Nat → Nat} {aR : Nat → Nat} {aV : Nat → Nat} {gG : Nat} {gY : Nat} {gZ : Nat} {N : Nat} {SX : zRS} {SN : zHS} {SK : zHS} {ST : zTS} {SH : zHS} {SR : zRS} {SV : (Nat → Nat → Int64)} {SG : (Nat → Int32)} {SY : (Nat → Int32)} {SZ : (Nat → Int32)} {SD : (List (Nat × zPS))} {SE : (List ((Nat → Nat) × zQS))} {a1 : Int32} {a2 : Int32} {a3 : Int32} {r0 : Int32} {OT : zTS} {OH : zHS} {OE : (List ((Nat → Nat) × zQS))} (hf : f_X11_on N SX SN SK ST SH SR SV SG SY SZ SD SE a1 a2 a3 = some (r0, OT, OH, OE)) : zC l yX11_on cX11_on 5 (some .int) rm_X11_on G ct [.ref (aX 200), .int a1, .int a2, .int a3] [wX aX (aN 200) (aK 200) (aT 200) (aR 200) (aV 6) gG gY gZ ct SX, wH aN ct SN, wH aK ct SK, wT aT (aH 200) ct ST, wH aH ct SH, wR aR ct SR, wV aV ct SV, wA gG 21 ct SG, wA gY 5 ct SY, wA gZ 5 ct SZ, wDp gG SD, wDh ct SE] [wX aX (aN 200) (aK 200) (aT 200) (aR 200) (aV 6) gG gY gZ ct SX, wH aN ct SN, wH aK ct SK, wT aT (aH 200) ct OT, wH aH ct OH, wR aR ct SR, wV aV ct SV, wA gG 21 ct SG, wA gY 5 ct SY, wA gZ 5 ct SZ, wDp gG SD, wDh ct OE] (some (.int r0)) 0 0 := by
  refine z_enter (own := RX11) (lv := [(0, .ref (aX 200)), (1, .int a1), (2, .int a2), (3, .int a3)]) (by decide) rfl (Nat.le_of_ble_eq_true rfl) rfl ?_
  intro p e s m args below meth c A E hr hnm
  unfold f_X11_on at hf
  refine z_aload_n (pc := 0) (k0 := 0) E dX11_on_0 rfl rfl ?_
  refine gX_0 (pc := 1) (i := 0) E rfl wd_1_16 dX11_on_1 ?_
  refine z_iload_n (pc := 4) (k0 := 1) E dX11_on_4 rfl rfl ?_
  obtain ⟨r1, h2, hf⟩ := kC_e hf
  refine z_callV0 (pc := 5) (is := [1]) (n := 1) (As := [.int a1]) (st := []) (st' := [va_rf r1]) (C2 := [wX aX (aN 200) (aK 200) (aT 200) (aR 200) (aV 6) gG gY gZ ct SX, wH aN ct SN, wH aK ct SK, wT aT (aH 200) ct ST, wH aH ct SH, wR aR ct SR, wV aV ct SV, wA gG 21 ct SG, wA gY 5 ct SY, wA gZ 5 ct SZ, wDp gG SD, wDh ct SE]) E (c_X1_person (l := l) (G := G) (ct := ct) (aH := aN) h2) wv_X1_person wd_11_10 ⟨Nat.le_of_ble_eq_true rfl, Nat.le_of_ble_eq_true rfl, Nat.le_of_ble_eq_true rfl, Nat.le_of_ble_eq_true rfl⟩ rfl rfl rfl (by decide) rfl rfl (zrH (j := 0) rfl) rfl (Nat.le_of_ble_eq_true rfl) dX11_on_5 rfl rfl ?_
  refine z_qstore (pc := 8) (lv' := [(4, va_rf r1), (0, .ref (aX 200)), (1, .int a1), (2, .int a2), (3, .int a3)]) E dX11_on_8 (by decide) rfl ?_
  refine z_qload (pc := 10) (k0 := 0) E dX11_on_10 rfl ?_
  refine z_ifnull (pc := 12) (tgt := 24) E dX11_on_12 (by decide) (fun e4 => ?_) (fun w3 e4 => ?_)
  · have hf := kN_n hf e4
    refine z_iconst (pc := 24) (v := (-1)) E dX11_on_24 (by decide) ?_
    cases hf
    exact z_iret E hr dX11_on_25
  · have hf := kN_s hf e4
    have hf_e4 := hf
    subst e4
    have hf := hf_e4
    refine z_iload_n (pc := 15) (k0 := 4) E dX11_on_15 rfl rfl ?_
    refine z_if_lt (pc := 16) (tgt := 24) E dX11_on_16 (by decide) (fun c5 => ?_) (fun c5 => ?_)
    · have hf := kB_t hf c5
      refine z_iconst (pc := 24) (v := (-1)) E dX11_on_24 (by decide) ?_
      cases hf
      exact z_iret E hr dX11_on_25
    · have hf := kB_f hf c5
      refine z_iload_n (pc := 19) (k0 := 4) E dX11_on_19 rfl rfl ?_
      refine z_iconst (pc := 20) (v := 4) E dX11_on_20 (by decide) ?_
      refine z_icmp_le (pc := 21) (tgt := 26) E dX11_on_21 (by decide) (fun c6 => ?_) (fun c6 => ?_)
      · have hf := kB_t hf c6
        refine z_iload_n (pc := 26) (k0 := 3) E dX11_on_26 rfl rfl ?_
        refine z_if_lt (pc := 27) (tgt := 36) E dX11_on_27 (by decide) (fun c7 => ?_) (fun c7 => ?_)
        · have hf := kB_t hf c7
          refine z_bipush (pc := 36) (v := (-2)) E dX11_on_36 (by decide) ?_
          cases hf
          exact z_iret E hr dX11_on_38
        · have hf := kB_f hf c7
          refine z_iload_n (pc := 30) (k0 := 3) E dX11_on_30 rfl rfl ?_
          refine z_bipush (pc := 31) (v := 60) E dX11_on_31 (by decide) ?_
          refine z_icmp_le (pc := 33) (tgt := 39) E dX11_on_33 (by decide) (fun c8 => ?_) (fun c8 => ?_)
          · have hf := kB_t hf c8
            refine z_aload_n (pc := 39) (k0 := 1) E dX11_on_39 rfl rfl ?_
            refine gX_2 (pc := 40) (i := 0) E rfl wd_1_21 dX11_on_40 ?_
            refine z_aload_n (pc := 43) (k0 := 1) E dX11_on_43 rfl rfl ?_
            refine gX_0 (pc := 44) (i := 0) E rfl wd_1_16 dX11_on_44 ?_
            obtain ⟨S_9, S_10, h11, hf⟩ := kD_e hf
            refine z_callV0 (pc := 47) (is := [3, 4, 1, 10]) (n := 1) (As := [.ref (aN 200)]) (st := []) (st' := []) (C2 := [wX aX (aN 200) (aK 200) (aT 200) (aR 200) (aV 6) gG gY gZ ct SX, wH aN ct SN, wH aK ct SK, wT aT (aH 200) ct S_9, wH aH ct S_10, wR aR ct SR, wV aV ct SV, wA gG 21 ct SG, wA gY 5 ct SY, wA gZ 5 ct SZ, wDp gG SD, wDh ct SE]) E (c_X10_start (l := l) (G := G) (ct := ct) (aT := aT) (aH := aH) (aK := aN) (gG := gG) h11) wv_X10_start wd_32_12 ⟨Nat.le_of_ble_eq_true rfl, Nat.le_of_ble_eq_true rfl, Nat.le_of_ble_eq_true rfl, Nat.le_of_ble_eq_true rfl⟩ rfl rfl rfl (by decide) rfl rfl (zrT (j := 0) rfl) rfl (Nat.le_of_ble_eq_true rfl) dX11_on_47 rfl rfl ?_
            refine z_aload_n (pc := 50) (k0 := 1) E dX11_on_50 rfl rfl ?_
            refine gX_2 (pc := 51) (i := 0) E rfl wd_1_21 dX11_on_51 ?_
            refine z_aload (pc := 54) (k0 := 0) E dX11_on_54 rfl ?_
            refine z_aload (pc := 56) (k0 := 0) E dX11_on_56 rfl ?_
            refine z_iload_n (pc := 58) (k0 := 3) E dX11_on_58 rfl rfl ?_
            obtain ⟨S_12, S_13, S_14, h15, hf⟩ := kD3_e hf
            refine z_callV0 (pc := 59) (is := [3, 4, 10, 11]) (n := 3) (As := [.ref w3, .ref w3, .int a2]) (st := []) (st' := []) (C2 := [wX aX (aN 200) (aK 200) (aT 200) (aR 200) (aV 6) gG gY gZ ct SX, wH aN ct SN, wH aK ct SK, wT aT (aH 200) ct S_12, wH aH ct S_13, wR aR ct SR, wV aV ct SV, wA gG 21 ct SG, wA gY 5 ct SY, wA gZ 5 ct SZ, wDp gG SD, wDh ct S_14]) E (c_X10_run (l := l) (G := G) (ct := ct) (aT := aT) (aH := aH) (gG := gG) h15) wv_X10_run wd_33_7 ⟨Nat.le_of_ble_eq_true rfl, Nat.le_of_ble_eq_true rfl, Nat.le_of_ble_eq_true rfl, Nat.le_of_ble_eq_true rfl⟩ rfl rfl rfl (by decide) rfl rfl (zrT (j := 0) rfl) rfl (Nat.le_of_ble_eq_true rfl) dX11_on_59 rfl rfl ?_
            refine z_iload_n (pc := 62) (k0 := 4) E dX11_on_62 rfl rfl ?_
            by_cases c16 : a3 = 0
            · have hf := kB_t hf c16
              refine z_tswIn (pc := 63) (tgt := 92) (v := 0) (n := 0) (off := 29) E dX11_on_63 c16 (by decide) (by decide) (by decide) (by decide) (by decide) ?_
              refine z_aload_n (pc := 92) (k0 := 1) E dX11_on_92 rfl rfl ?_
              refine gX_2 (pc := 93) (i := 0) E rfl wd_1_21 dX11_on_93 ?_
              refine gT_0 (pc := 96) (i := 3) E rfl wd_32_10 dX11_on_96 ?_
              refine gH_11 (pc := 99) (i := 4) E rfl wd_28_18 dX11_on_99 ?_
              cases hf
              exact z_iret E hr dX11_on_102
            have hf := kB_f hf c16
            by_cases c17 : a3 = 1
            · have hf := kB_t hf c17
              refine z_tswIn (pc := 63) (tgt := 103) (v := 1) (n := 1) (off := 40) E dX11_on_63 c17 (by decide) (by decide) (by decide) (by decide) (by decide) ?_
              refine z_aload_n (pc := 103) (k0 := 1) E dX11_on_103 rfl rfl ?_
              refine gX_2 (pc := 104) (i := 0) E rfl wd_1_21 dX11_on_104 ?_
              refine gT_0 (pc := 107) (i := 3) E rfl wd_32_10 dX11_on_107 ?_
              refine gH_12 (pc := 110) (i := 4) E rfl wd_28_19 dX11_on_110 ?_
              cases hf
              exact z_iret E hr dX11_on_113
            have hf := kB_f hf c17
            by_cases c18 : a3 = 2
            · have hf := kB_t hf c18
              refine z_tswIn (pc := 63) (tgt := 114) (v := 2) (n := 2) (off := 51) E dX11_on_63 c18 (by decide) (by decide) (by decide) (by decide) (by decide) ?_
              refine z_aload_n (pc := 114) (k0 := 1) E dX11_on_114 rfl rfl ?_
              refine gX_2 (pc := 115) (i := 0) E rfl wd_1_21 dX11_on_115 ?_
              refine gT_0 (pc := 118) (i := 3) E rfl wd_32_10 dX11_on_118 ?_
              refine gH_14 (pc := 121) (i := 4) E rfl wd_28_21 dX11_on_121 ?_
              cases hf
              exact z_iret E hr dX11_on_124
            have hf := kB_f hf c18
            by_cases c19 : a3 = 3
            · have hf := kB_t hf c19
              refine z_tswIn (pc := 63) (tgt := 125) (v := 3) (n := 3) (off := 62) E dX11_on_63 c19 (by decide) (by decide) (by decide) (by decide) (by decide) ?_
              refine z_aload_n (pc := 125) (k0 := 1) E dX11_on_125 rfl rfl ?_
              refine gX_2 (pc := 126) (i := 0) E rfl wd_1_21 dX11_on_126 ?_
              refine gT_5 (pc := 129) (i := 3) E rfl wd_32_11 dX11_on_129 ?_
              cases hf
              exact z_iret E hr dX11_on_132
            have hf := kB_f hf c19
            refine z_tswOut (pc := 63) (tgt := 133) E dX11_on_63 (by have n_c16 := lv_neT c16 (a := 0) (by decide); have n_c17 := lv_neT c17 (a := 1) (by decide); have n_c18 := lv_neT c18 (a := 2) (by decide); have n_c19 := lv_neT c19 (a := 3) (by decide); omega) (by decide) ?_
            refine z_aload_n (pc := 133) (k0 := 1) E dX11_on_133 rfl rfl ?_
            refine gX_2 (pc := 134) (i := 0) E rfl wd_1_21 dX11_on_134 ?_
            refine gT_0 (pc := 137) (i := 3) E rfl wd_32_10 dX11_on_137 ?_
            obtain ⟨r20, h21, hf⟩ := kC_e hf
            refine z_callV0 (pc := 140) (is := [4]) (n := 0) (As := []) (st := []) (st' := [.int r20]) (C2 := [wX aX (aN 200) (aK 200) (aT 200) (aR 200) (aV 6) gG gY gZ ct SX, wH aN ct SN, wH aK ct SK, wT aT (aH 200) ct S_12, wH aH ct S_13, wR aR ct SR, wV aV ct SV, wA gG 21 ct SG, wA gY 5 ct SY, wA gZ 5 ct SZ, wDp gG SD, wDh ct S_14]) E (c_X1_how (l := l) (G := G) (ct := ct) (aH := aH) h21) wv_X1_how wd_29_1 ⟨Nat.le_of_ble_eq_true rfl, Nat.le_of_ble_eq_true rfl, Nat.le_of_ble_eq_true rfl, Nat.le_of_ble_eq_true rfl⟩ rfl rfl rfl (by decide) rfl rfl (zrH (j := 0) rfl) rfl (Nat.le_of_ble_eq_true rfl) dX11_on_140 rfl rfl ?_
            cases hf
            exact z_iret E hr dX11_on_143
          · have hf := kB_f hf c8
            refine z_bipush (pc := 36) (v := (-2)) E dX11_on_36 (by decide) ?_
            cases hf
            exact z_iret E hr dX11_on_38
      · have hf := kB_f hf c6
        refine z_iconst (pc := 24) (v := (-1)) E dX11_on_24 (by decide) ?_
        cases hf
        exact z_iret E hr dX11_on_25
noncomputable def f_X11_earlier (a1 : Int32) (a2 : Int32) : Option Int32 := kB (a1 = (-5)) (some (0)) (kB (a2 = (-5)) (some (1)) (kB (a2 ≤ a1) (some (0)) (some (1))))
theorem wv_X11_earlier : zWS RX11 yX11_earlier cX11_earlier 2 (some .boolean) 2 := ⟨wd_35_4, wd_1_2, wd_35_5, by decide +kernel⟩
def rm_X11_earlier : Room := { frames := 0, cells := 0, slots := 0, locals := 0 }
set_option maxHeartbeats 4000000 in
set_option maxRecDepth 100000 in
theorem c_X11_earlier {l : Launch} {G : va_G} {ct : Nat → ClassId} {a1 : Int32} {a2 : Int32} {r0 : Int32} (hf : f_X11_earlier a1 a2 = some r0) : zC l yX11_earlier cX11_earlier 2 (some .boolean) rm_X11_earlier G ct [.int a1, .int a2] [] [] (some (.int r0)) 0 0 := by
  refine z_enter (own := RX11) (lv := [(0, .int a1), (1, .int a2)]) (by decide) rfl (Nat.le_of_ble_eq_true rfl) rfl ?_
  intro p e s m args below meth c A E hr hnm
  unfold f_X11_earlier at hf
  refine z_iload_n (pc := 0) (k0 := 0) E dX11_earlier_0 rfl rfl ?_
  refine z_bipush (pc := 1) (v := (-5)) E dX11_earlier_1 (by decide) ?_
  refine z_icmp_eq (pc := 3) (tgt := 21) E dX11_earlier_3 (by decide) (fun c1 => ?_) (fun c1 => ?_)
  · have hf := kB_t hf c1
    refine z_iconst (pc := 21) (v := 0) E dX11_earlier_21 (by decide) ?_
    cases hf
    exact z_zret E hr (by decide) dX11_earlier_22
  · have hf := kB_f hf c1
    refine z_iload_n (pc := 6) (k0 := 1) E dX11_earlier_6 rfl rfl ?_
    refine z_bipush (pc := 7) (v := (-5)) E dX11_earlier_7 (by decide) ?_
    refine z_icmp_eq (pc := 9) (tgt := 17) E dX11_earlier_9 (by decide) (fun c2 => ?_) (fun c2 => ?_)
    · have hf := kB_t hf c2
      refine z_iconst (pc := 17) (v := 1) E dX11_earlier_17 (by decide) ?_
      refine z_goto (pc := 18) (tgt := 22) E dX11_earlier_18 (by decide) ?_
      cases hf
      exact z_zret E hr (by decide) dX11_earlier_22
    · have hf := kB_f hf c2
      refine z_iload_n (pc := 12) (k0 := 0) E dX11_earlier_12 rfl rfl ?_
      refine z_iload_n (pc := 13) (k0 := 1) E dX11_earlier_13 rfl rfl ?_
      refine z_icmp_ge (pc := 14) (tgt := 21) E dX11_earlier_14 (by decide) (fun c3 => ?_) (fun c3 => ?_)
      · have hf := kB_t hf c3
        refine z_iconst (pc := 21) (v := 0) E dX11_earlier_21 (by decide) ?_
        cases hf
        exact z_zret E hr (by decide) dX11_earlier_22
      · have hf := kB_f hf c3
        refine z_iconst (pc := 17) (v := 1) E dX11_earlier_17 (by decide) ?_
        refine z_goto (pc := 18) (tgt := 22) E dX11_earlier_18 (by decide) ?_
        cases hf
        exact z_zret E hr (by decide) dX11_earlier_22
noncomputable def f_X11_with_l20 (N : Nat) (SX : zRS) (SN : zHS) (SK : zHS) (SR : zRS) (SV : (Nat → Nat → Int64)) (SG : (Nat → Int32)) (SY : (Nat → Int32)) (SZ : (Nat → Int32)) (SD : (List (Nat × zPS))) : Nat → zTS → zHS → ((List ((Nat → Nat) × zQS))) → Int32 → Int32 → Int32 → Int32 → Option (Int32 × zTS × zHS × ((List ((Nat → Nat) × zQS)))) := fun n => Nat.rec (motive := fun _ => zTS → zHS → ((List ((Nat → Nat) × zQS))) → Int32 → Int32 → Int32 → Int32 → Option (Int32 × zTS × zHS × ((List ((Nat → Nat) × zQS))))) (fun _ _ _ _ _ _ _ => none) (fun _ ih ST SH SE x1 x2 x3 x4 => kB ((SN.1 8) ≤ x4) (kB (x1 = 0) (some (x2, ST, SH, SE)) (some (x3, ST, SH, SE))) (kC (f_X1_person SN x4) (fun r5 => kD (f_X10_start N ST SH SN SD) (fun S_7 S_8 => kD4 (f_X10_sleepsAt N S_7 S_8 SD SE r5 r5) (fun r10 S_11 S_12 S_13 => kC (f_X11_earlier r10 x3) (fun r15 => kB (r15 = 0) (kL (x4 + 1) (fun v18 => ih S_11 S_12 S_13 x1 x2 x3 v18)) (kL (x4 + 1) (fun v19 => ih S_11 S_12 S_13 x1 x4 r10 v19)))))))) n
theorem f_X11_with_l20_z (N : Nat) (SX : zRS) (SN : zHS) (SK : zHS) (SR : zRS) (SV : (Nat → Nat → Int64)) (SG : (Nat → Int32)) (SY : (Nat → Int32)) (SZ : (Nat → Int32)) (SD : (List (Nat × zPS))) (ST : zTS) (SH : zHS) (SE : (List ((Nat → Nat) × zQS))) (x1 : Int32) (x2 : Int32) (x3 : Int32) (x4 : Int32) : f_X11_with_l20 N SX SN SK SR SV SG SY SZ SD 0 ST SH SE x1 x2 x3 x4 = none := rfl
theorem f_X11_with_l20_s (N : Nat) (SX : zRS) (SN : zHS) (SK : zHS) (SR : zRS) (SV : (Nat → Nat → Int64)) (SG : (Nat → Int32)) (SY : (Nat → Int32)) (SZ : (Nat → Int32)) (SD : (List (Nat × zPS))) (n : Nat) (ST : zTS) (SH : zHS) (SE : (List ((Nat → Nat) × zQS))) (x1 : Int32) (x2 : Int32) (x3 : Int32) (x4 : Int32) : f_X11_with_l20 N SX SN SK SR SV SG SY SZ SD (n + 1) ST SH SE x1 x2 x3 x4 = kB ((SN.1 8) ≤ x4) (kB (x1 = 0) (some (x2, ST, SH, SE)) (some (x3, ST, SH, SE))) (kC (f_X1_person SN x4) (fun r5 => kD (f_X10_start N ST SH SN SD) (fun S_7 S_8 => kD4 (f_X10_sleepsAt N S_7 S_8 SD SE r5 r5) (fun r10 S_11 S_12 S_13 => kC (f_X11_earlier r10 x3) (fun r15 => kB (r15 = 0) (kL (x4 + 1) (fun v18 => (f_X11_with_l20 N SX SN SK SR SV SG SY SZ SD n) S_11 S_12 S_13 x1 x2 x3 v18)) (kL (x4 + 1) (fun v19 => (f_X11_with_l20 N SX SN SK SR SV SG SY SZ SD n) S_11 S_12 S_13 x1 x4 r10 v19))))))) := rfl
noncomputable def f_X11_with (N : Nat) (SX : zRS) (SN : zHS) (SK : zHS) (ST : zTS) (SH : zHS) (SR : zRS) (SV : (Nat → Nat → Int64)) (SG : (Nat → Int32)) (SY : (Nat → Int32)) (SZ : (Nat → Int32)) (SD : (List (Nat × zPS))) (SE : (List ((Nat → Nat) × zQS))) (a1 : Int32) : Option (Int32 × zTS × zHS × ((List ((Nat → Nat) × zQS)))) := kB (a1 < 0) (some ((-1), ST, SH, SE)) (kB (a1 ≤ 1) (f_X11_with_l20 N SX SN SK SR SV SG SY SZ SD N ST SH SE a1 (-5) (-5) 0) (some ((-1), ST, SH, SE)))
theorem wv_X11_with : zWV RX11 yX11_with cX11_with 7 (some .int) 1 := ⟨wd_34_18, wd_34_19, wd_1_2, wd_34_20, by decide +kernel⟩
def rm_X11_with : Room := { frames := 7, cells := 0, slots := 0, locals := 193 }
set_option maxHeartbeats 4000000 in
set_option maxRecDepth 100000 in
theorem c_X11_with {l : Launch} {G : va_G} {ct : Nat → ClassId} {aX : Nat → Nat} {aN : Nat → Nat} {aK : Nat → Nat} {aT : Nat → Nat} {aH : Nat → Nat} {aR : Nat → Nat} {aV : Nat → Nat} {gG : Nat} {gY : Nat} {gZ : Nat} {N : Nat} {SX : zRS} {SN : zHS} {SK : zHS} {ST : zTS} {SH : zHS} {SR : zRS} {SV : (Nat → Nat → Int64)} {SG : (Nat → Int32)} {SY : (Nat → Int32)} {SZ : (Nat → Int32)} {SD : (List (Nat × zPS))} {SE : (List ((Nat → Nat) × zQS))} {a1 : Int32} {r0 : Int32} {OT : zTS} {OH : zHS} {OE : (List ((Nat → Nat) × zQS))} (hf : f_X11_with N SX SN SK ST SH SR SV SG SY SZ SD SE a1 = some (r0, OT, OH, OE)) : zC l yX11_with cX11_with 7 (some .int) rm_X11_with G ct [.ref (aX 200), .int a1] [wX aX (aN 200) (aK 200) (aT 200) (aR 200) (aV 6) gG gY gZ ct SX, wH aN ct SN, wH aK ct SK, wT aT (aH 200) ct ST, wH aH ct SH, wR aR ct SR, wV aV ct SV, wA gG 21 ct SG, wA gY 5 ct SY, wA gZ 5 ct SZ, wDp gG SD, wDh ct SE] [wX aX (aN 200) (aK 200) (aT 200) (aR 200) (aV 6) gG gY gZ ct SX, wH aN ct SN, wH aK ct SK, wT aT (aH 200) ct OT, wH aH ct OH, wR aR ct SR, wV aV ct SV, wA gG 21 ct SG, wA gY 5 ct SY, wA gZ 5 ct SZ, wDp gG SD, wDh ct OE] (some (.int r0)) 0 0 := by
  refine z_enter (own := RX11) (lv := [(0, .ref (aX 200)), (1, .int a1)]) (by decide) rfl (Nat.le_of_ble_eq_true rfl) rfl ?_
  intro p e s m args below meth c A E hr hnm
  have L20 : ∀ (n20 : Nat) (ST : zTS) (SH : zHS) (SE : (List ((Nat → Nat) × zQS))) (x1 : Int32) (x2 : Int32) (x3 : Int32) (x4 : Int32), f_X11_with_l20 N SX SN SK SR SV SG SY SZ SD n20 ST SH SE x1 x2 x3 x4 = some (r0, OT, OH, OE) → zJ p l e rm_X11_with s m args below meth c (zQ G ct (some (.int r0)) [wX aX (aN 200) (aK 200) (aT 200) (aR 200) (aV 6) gG gY gZ ct SX, wH aN ct SN, wH aK ct SK, wT aT (aH 200) ct OT, wH aH ct OH, wR aR ct SR, wV aV ct SV, wA gG 21 ct SG, wA gY 5 ct SY, wA gZ 5 ct SZ, wDp gG SD, wDh ct OE] A below args s 0 0) A G 7 0 0 [wX aX (aN 200) (aK 200) (aT 200) (aR 200) (aV 6) gG gY gZ ct SX, wH aN ct SN, wH aK ct SK, wT aT (aH 200) ct ST, wH aH ct SH, wR aR ct SR, wV aV ct SV, wA gG 21 ct SG, wA gY 5 ct SY, wA gZ 5 ct SZ, wDp gG SD, wDh ct SE] [(0, .ref (aX 200)), (1, .int x1), (2, .int x2), (3, .int x3), (4, .int x4)] 20 [] := by
    intro n20
    induction n20 with
    | zero =>
      intro ST SH SE x1 x2 x3 x4 hf
      rw [f_X11_with_l20_z] at hf
      cases hf
    | succ n20 ih20 =>
      intro ST SH SE x1 x2 x3 x4 hf
      rw [f_X11_with_l20_s] at hf
      refine z_iload (pc := 20) (k0 := 4) E dX11_with_20 rfl ?_
      refine z_aload_n (pc := 22) (k0 := 0) E dX11_with_22 rfl rfl ?_
      refine gX_0 (pc := 23) (i := 0) E rfl wd_1_16 dX11_with_23 ?_
      refine gH_8 (pc := 26) (i := 1) E rfl wd_7_19 dX11_with_26 ?_
      refine z_icmp_ge (pc := 29) (tgt := 88) E dX11_with_29 (by decide) (fun c3 => ?_) (fun c3 => ?_)
      · have hf := kB_t hf c3
        refine z_iload_n (pc := 88) (k0 := 1) E dX11_with_88 rfl rfl ?_
        refine z_if_ne (pc := 89) (tgt := 96) E dX11_with_89 (by decide) (fun c4 => ?_) (fun c4 => ?_)
        · have hf := kB_f hf c4
          refine z_iload_n (pc := 96) (k0 := 3) E dX11_with_96 rfl rfl ?_
          cases hf
          exact z_iret E hr dX11_with_97
        · have hf := kB_t hf c4
          refine z_iload_n (pc := 92) (k0 := 2) E dX11_with_92 rfl rfl ?_
          refine z_goto (pc := 93) (tgt := 97) E dX11_with_93 (by decide) ?_
          cases hf
          exact z_iret E hr dX11_with_97
      · have hf := kB_f hf c3
        refine z_aload_n (pc := 32) (k0 := 0) E dX11_with_32 rfl rfl ?_
        refine gX_0 (pc := 33) (i := 0) E rfl wd_1_16 dX11_with_33 ?_
        refine z_iload (pc := 36) (k0 := 4) E dX11_with_36 rfl ?_
        obtain ⟨r5, h6, hf⟩ := kC_e hf
        refine z_callV0 (pc := 38) (is := [1]) (n := 1) (As := [.int x4]) (st := []) (st' := [va_rf r5]) (C2 := [wX aX (aN 200) (aK 200) (aT 200) (aR 200) (aV 6) gG gY gZ ct SX, wH aN ct SN, wH aK ct SK, wT aT (aH 200) ct ST, wH aH ct SH, wR aR ct SR, wV aV ct SV, wA gG 21 ct SG, wA gY 5 ct SY, wA gZ 5 ct SZ, wDp gG SD, wDh ct SE]) E (c_X1_person (l := l) (G := G) (ct := ct) (aH := aN) h6) wv_X1_person wd_11_10 ⟨Nat.le_of_ble_eq_true rfl, Nat.le_of_ble_eq_true rfl, Nat.le_of_ble_eq_true rfl, Nat.le_of_ble_eq_true rfl⟩ rfl rfl rfl (by decide) rfl rfl (zrH (j := 0) rfl) rfl (Nat.le_of_ble_eq_true rfl) dX11_with_38 rfl rfl ?_
        refine z_qstore (pc := 41) (lv' := [(5, va_rf r5), (0, .ref (aX 200)), (1, .int x1), (2, .int x2), (3, .int x3), (4, .int x4)]) E dX11_with_41 (by decide) rfl ?_
        refine z_aload_n (pc := 43) (k0 := 1) E dX11_with_43 rfl rfl ?_
        refine gX_2 (pc := 44) (i := 0) E rfl wd_1_21 dX11_with_44 ?_
        refine z_aload_n (pc := 47) (k0 := 1) E dX11_with_47 rfl rfl ?_
        refine gX_0 (pc := 48) (i := 0) E rfl wd_1_16 dX11_with_48 ?_
        obtain ⟨S_7, S_8, h9, hf⟩ := kD_e hf
        refine z_callV0 (pc := 51) (is := [3, 4, 1, 10]) (n := 1) (As := [.ref (aN 200)]) (st := []) (st' := []) (C2 := [wX aX (aN 200) (aK 200) (aT 200) (aR 200) (aV 6) gG gY gZ ct SX, wH aN ct SN, wH aK ct SK, wT aT (aH 200) ct S_7, wH aH ct S_8, wR aR ct SR, wV aV ct SV, wA gG 21 ct SG, wA gY 5 ct SY, wA gZ 5 ct SZ, wDp gG SD, wDh ct SE]) E (c_X10_start (l := l) (G := G) (ct := ct) (aT := aT) (aH := aH) (aK := aN) (gG := gG) h9) wv_X10_start wd_32_12 ⟨Nat.le_of_ble_eq_true rfl, Nat.le_of_ble_eq_true rfl, Nat.le_of_ble_eq_true rfl, Nat.le_of_ble_eq_true rfl⟩ rfl rfl rfl (by decide) rfl rfl (zrT (j := 0) rfl) rfl (Nat.le_of_ble_eq_true rfl) dX11_with_51 rfl rfl ?_
        refine z_aload_n (pc := 54) (k0 := 1) E dX11_with_54 rfl rfl ?_
        refine gX_2 (pc := 55) (i := 0) E rfl wd_1_21 dX11_with_55 ?_
        refine z_qload (pc := 58) (k0 := 0) E dX11_with_58 rfl ?_
        refine z_qload (pc := 60) (k0 := 0) E dX11_with_60 rfl ?_
        obtain ⟨r10, S_11, S_12, S_13, h14, hf⟩ := kD4_e hf
        refine z_callV0 (pc := 62) (is := [3, 4, 10, 11]) (n := 2) (As := [va_rf r5, va_rf r5]) (st := []) (st' := [.int r10]) (C2 := [wX aX (aN 200) (aK 200) (aT 200) (aR 200) (aV 6) gG gY gZ ct SX, wH aN ct SN, wH aK ct SK, wT aT (aH 200) ct S_11, wH aH ct S_12, wR aR ct SR, wV aV ct SV, wA gG 21 ct SG, wA gY 5 ct SY, wA gZ 5 ct SZ, wDp gG SD, wDh ct S_13]) E (c_X10_sleepsAt (l := l) (G := G) (ct := ct) (aT := aT) (aH := aH) (gG := gG) h14) wv_X10_sleepsAt wd_34_21 ⟨Nat.le_of_ble_eq_true rfl, Nat.le_of_ble_eq_true rfl, Nat.le_of_ble_eq_true rfl, Nat.le_of_ble_eq_true rfl⟩ rfl rfl rfl (by decide) rfl rfl (zrT (j := 0) rfl) rfl (Nat.le_of_ble_eq_true rfl) dX11_with_62 rfl rfl ?_
        refine z_istore (pc := 65) (lv' := [(6, .int r10), (5, va_rf r5), (0, .ref (aX 200)), (1, .int x1), (2, .int x2), (3, .int x3), (4, .int x4)]) E dX11_with_65 (by decide) (by simp [zcat, zcr, zci]) ?_
        refine z_iload (pc := 67) (k0 := 0) E dX11_with_67 rfl ?_
        refine z_iload_n (pc := 69) (k0 := 5) E dX11_with_69 rfl rfl ?_
        obtain ⟨r15, h16, hf⟩ := kC_e hf
        refine z_callS0 (pc := 70) (is := []) (n := 2) (As := [.int r10, .int x3]) (st := []) (st' := [.int r15]) (C2 := [wX aX (aN 200) (aK 200) (aT 200) (aR 200) (aV 6) gG gY gZ ct SX, wH aN ct SN, wH aK ct SK, wT aT (aH 200) ct S_11, wH aH ct S_12, wR aR ct SR, wV aV ct SV, wA gG 21 ct SG, wA gY 5 ct SY, wA gZ 5 ct SZ, wDp gG SD, wDh ct S_13]) E (c_X11_earlier (l := l) (G := G) (ct := ct)  h16) wv_X11_earlier wd_35_3 ⟨Nat.le_of_ble_eq_true rfl, Nat.le_of_ble_eq_true rfl, Nat.le_of_ble_eq_true rfl, Nat.le_of_ble_eq_true rfl⟩ rfl rfl rfl (by decide) rfl rfl rfl (Nat.le_of_ble_eq_true rfl) dX11_with_70 rfl rfl ?_
        refine z_if_eq (pc := 73) (tgt := 82) E dX11_with_73 (by decide) (fun c17 => ?_) (fun c17 => ?_)
        · have hf := kB_t hf c17
          obtain ⟨v18, e_v18, hf⟩ := kL_e hf
          refine z_iinc (pc := 82) (k0 := 6) (v := v18) (lv' := [(4, .int v18), (6, .int r10), (5, va_rf r5), (0, .ref (aX 200)), (1, .int x1), (2, .int x2), (3, .int x3)]) E dX11_with_82 rfl e_v18 (by decide) rfl ?_
          refine z_goto (pc := 85) (tgt := 20) E dX11_with_85 (by decide) ?_
          refine z_sub [3, 4, 5, 6, 0] (lv' := [(0, .ref (aX 200)), (1, .int x1), (2, .int x2), (3, .int x3), (4, .int v18)]) rfl ?_
          exact ih20 S_11 S_12 S_13 x1 x2 x3 v18 hf
        · have hf := kB_f hf c17
          refine z_iload (pc := 76) (k0 := 6) E dX11_with_76 rfl ?_
          refine z_istore_n (pc := 78) (lv' := [(2, .int x4), (6, .int r10), (5, va_rf r5), (0, .ref (aX 200)), (1, .int x1), (3, .int x3), (4, .int x4)]) E dX11_with_78 rfl (by decide) rfl ?_
          refine z_iload (pc := 79) (k0 := 1) E dX11_with_79 rfl ?_
          refine z_istore_n (pc := 81) (lv' := [(3, .int r10), (2, .int x4), (6, .int r10), (5, va_rf r5), (0, .ref (aX 200)), (1, .int x1), (4, .int x4)]) E dX11_with_81 rfl (by decide) rfl ?_
          obtain ⟨v19, e_v19, hf⟩ := kL_e hf
          refine z_iinc (pc := 82) (k0 := 6) (v := v19) (lv' := [(4, .int v19), (3, .int r10), (2, .int x4), (6, .int r10), (5, va_rf r5), (0, .ref (aX 200)), (1, .int x1)]) E dX11_with_82 rfl e_v19 (by decide) rfl ?_
          refine z_goto (pc := 85) (tgt := 20) E dX11_with_85 (by decide) ?_
          refine z_sub [5, 6, 2, 1, 0] (lv' := [(0, .ref (aX 200)), (1, .int x1), (2, .int x4), (3, .int r10), (4, .int v19)]) rfl ?_
          exact ih20 S_11 S_12 S_13 x1 x4 r10 v19 hf
  unfold f_X11_with at hf
  refine z_iload_n (pc := 0) (k0 := 1) E dX11_with_0 rfl rfl ?_
  refine z_if_lt (pc := 1) (tgt := 9) E dX11_with_1 (by decide) (fun c1 => ?_) (fun c1 => ?_)
  · have hf := kB_t hf c1
    refine z_iconst (pc := 9) (v := (-1)) E dX11_with_9 (by decide) ?_
    cases hf
    exact z_iret E hr dX11_with_10
  · have hf := kB_f hf c1
    refine z_iload_n (pc := 4) (k0 := 1) E dX11_with_4 rfl rfl ?_
    refine z_iconst (pc := 5) (v := 1) E dX11_with_5 (by decide) ?_
    refine z_icmp_le (pc := 6) (tgt := 11) E dX11_with_6 (by decide) (fun c2 => ?_) (fun c2 => ?_)
    · have hf := kB_t hf c2
      refine z_bipush (pc := 11) (v := (-5)) E dX11_with_11 (by decide) ?_
      refine z_istore_n (pc := 13) (lv' := [(2, .int (-5)), (0, .ref (aX 200)), (1, .int a1)]) E dX11_with_13 rfl (by decide) rfl ?_
      refine z_bipush (pc := 14) (v := (-5)) E dX11_with_14 (by decide) ?_
      refine z_istore_n (pc := 16) (lv' := [(3, .int (-5)), (2, .int (-5)), (0, .ref (aX 200)), (1, .int a1)]) E dX11_with_16 rfl (by decide) rfl ?_
      refine z_iconst (pc := 17) (v := 0) E dX11_with_17 (by decide) ?_
      refine z_istore (pc := 18) (lv' := [(4, .int 0), (3, .int (-5)), (2, .int (-5)), (0, .ref (aX 200)), (1, .int a1)]) E dX11_with_18 (by decide) rfl ?_
      refine z_sub [3, 4, 2, 1, 0] (lv' := [(0, .ref (aX 200)), (1, .int a1), (2, .int (-5)), (3, .int (-5)), (4, .int 0)]) rfl ?_
      exact L20 N ST SH SE a1 (-5) (-5) 0 hf
    · have hf := kB_f hf c2
      refine z_iconst (pc := 9) (v := (-1)) E dX11_with_9 (by decide) ?_
      cases hf
      exact z_iret E hr dX11_with_10
noncomputable def f_X11_both (N : Nat) (SX : zRS) (SN : zHS) (SK : zHS) (ST : zTS) (SH : zHS) (SR : zRS) (SV : (Nat → Nat → Int64)) (SG : (Nat → Int32)) (SY : (Nat → Int32)) (SZ : (Nat → Int32)) (SD : (List (Nat × zPS))) (SE : (List ((Nat → Nat) × zQS))) (a1 : Int32) (a2 : Int32) : Option (Int32 × zTS × zHS × ((List ((Nat → Nat) × zQS)))) := kC (f_X1_person SN a1) (fun r1 => kC (f_X1_person SN a2) (fun r3 => kN r1 (some ((-1), ST, SH, SE)) (fun w5 => kN r3 (some ((-1), ST, SH, SE)) (fun w7 => kD (f_X10_start N ST SH SN SD) (fun S_9 S_10 => kD4 (f_X10_sleepsAt N S_9 S_10 SD SE (some w5) (some w7)) (fun r12 S_13 S_14 S_15 => some (r12, S_13, S_14, S_15)))))))
theorem wv_X11_both : zWV RX11 yX11_both cX11_both 5 (some .int) 2 := ⟨wd_35_15, wd_35_16, wd_1_2, wd_35_17, by decide +kernel⟩
def rm_X11_both : Room := { frames := 7, cells := 0, slots := 0, locals := 193 }
set_option maxHeartbeats 4000000 in
set_option maxRecDepth 100000 in
theorem c_X11_both {l : Launch} {G : va_G} {ct : Nat → ClassId} {aX : Nat → Nat} {aN : Nat → Nat} {aK : Nat → Nat} {aT : Nat → Nat} {aH : Nat → Nat} {aR : Nat → Nat} {aV : Nat → Nat} {gG : Nat} {gY : Nat} {gZ : Nat} {N : Nat} {SX : zRS} {SN : zHS} {SK : zHS} {ST : zTS} {SH : zHS} {SR : zRS} {SV : (Nat → Nat → Int64)} {SG : (Nat → Int32)} {SY : (Nat → Int32)} {SZ : (Nat → Int32)} {SD : (List (Nat × zPS))} {SE : (List ((Nat → Nat) × zQS))} {a1 : Int32} {a2 : Int32} {r0 : Int32} {OT : zTS} {OH : zHS} {OE : (List ((Nat → Nat) × zQS))} (hf : f_X11_both N SX SN SK ST SH SR SV SG SY SZ SD SE a1 a2 = some (r0, OT, OH, OE)) : zC l yX11_both cX11_both 5 (some .int) rm_X11_both G ct [.ref (aX 200), .int a1, .int a2] [wX aX (aN 200) (aK 200) (aT 200) (aR 200) (aV 6) gG gY gZ ct SX, wH aN ct SN, wH aK ct SK, wT aT (aH 200) ct ST, wH aH ct SH, wR aR ct SR, wV aV ct SV, wA gG 21 ct SG, wA gY 5 ct SY, wA gZ 5 ct SZ, wDp gG SD, wDh ct SE] [wX aX (aN 200) (aK 200) (aT 200) (aR 200) (aV 6) gG gY gZ ct SX, wH aN ct SN, wH aK ct SK, wT aT (aH 200) ct OT, wH aH ct OH, wR aR ct SR, wV aV ct SV, wA gG 21 ct SG, wA gY 5 ct SY, wA gZ 5 ct SZ, wDp gG SD, wDh ct OE] (some (.int r0)) 0 0 := by
  refine z_enter (own := RX11) (lv := [(0, .ref (aX 200)), (1, .int a1), (2, .int a2)]) (by decide) rfl (Nat.le_of_ble_eq_true rfl) rfl ?_
  intro p e s m args below meth c A E hr hnm
  unfold f_X11_both at hf
  refine z_aload_n (pc := 0) (k0 := 0) E dX11_both_0 rfl rfl ?_
  refine gX_0 (pc := 1) (i := 0) E rfl wd_1_16 dX11_both_1 ?_
  refine z_iload_n (pc := 4) (k0 := 1) E dX11_both_4 rfl rfl ?_
  obtain ⟨r1, h2, hf⟩ := kC_e hf
  refine z_callV0 (pc := 5) (is := [1]) (n := 1) (As := [.int a1]) (st := []) (st' := [va_rf r1]) (C2 := [wX aX (aN 200) (aK 200) (aT 200) (aR 200) (aV 6) gG gY gZ ct SX, wH aN ct SN, wH aK ct SK, wT aT (aH 200) ct ST, wH aH ct SH, wR aR ct SR, wV aV ct SV, wA gG 21 ct SG, wA gY 5 ct SY, wA gZ 5 ct SZ, wDp gG SD, wDh ct SE]) E (c_X1_person (l := l) (G := G) (ct := ct) (aH := aN) h2) wv_X1_person wd_11_10 ⟨Nat.le_of_ble_eq_true rfl, Nat.le_of_ble_eq_true rfl, Nat.le_of_ble_eq_true rfl, Nat.le_of_ble_eq_true rfl⟩ rfl rfl rfl (by decide) rfl rfl (zrH (j := 0) rfl) rfl (Nat.le_of_ble_eq_true rfl) dX11_both_5 rfl rfl ?_
  refine z_qstore_n (pc := 8) (lv' := [(3, va_rf r1), (0, .ref (aX 200)), (1, .int a1), (2, .int a2)]) E dX11_both_8 rfl (by decide) rfl ?_
  refine z_aload_n (pc := 9) (k0 := 1) E dX11_both_9 rfl rfl ?_
  refine gX_0 (pc := 10) (i := 0) E rfl wd_1_16 dX11_both_10 ?_
  refine z_iload_n (pc := 13) (k0 := 3) E dX11_both_13 rfl rfl ?_
  obtain ⟨r3, h4, hf⟩ := kC_e hf
  refine z_callV0 (pc := 14) (is := [1]) (n := 1) (As := [.int a2]) (st := []) (st' := [va_rf r3]) (C2 := [wX aX (aN 200) (aK 200) (aT 200) (aR 200) (aV 6) gG gY gZ ct SX, wH aN ct SN, wH aK ct SK, wT aT (aH 200) ct ST, wH aH ct SH, wR aR ct SR, wV aV ct SV, wA gG 21 ct SG, wA gY 5 ct SY, wA gZ 5 ct SZ, wDp gG SD, wDh ct SE]) E (c_X1_person (l := l) (G := G) (ct := ct) (aH := aN) h4) wv_X1_person wd_11_10 ⟨Nat.le_of_ble_eq_true rfl, Nat.le_of_ble_eq_true rfl, Nat.le_of_ble_eq_true rfl, Nat.le_of_ble_eq_true rfl⟩ rfl rfl rfl (by decide) rfl rfl (zrH (j := 0) rfl) rfl (Nat.le_of_ble_eq_true rfl) dX11_both_14 rfl rfl ?_
  refine z_qstore (pc := 17) (lv' := [(4, va_rf r3), (3, va_rf r1), (0, .ref (aX 200)), (1, .int a1), (2, .int a2)]) E dX11_both_17 (by decide) (by simp [zcat, zcr, zci]) ?_
  refine z_qload_n (pc := 19) (k0 := 1) E dX11_both_19 rfl rfl ?_
  refine z_ifnull (pc := 20) (tgt := 28) E dX11_both_20 (by decide) (fun e6 => ?_) (fun w5 e6 => ?_)
  · have hf := kN_n hf e6
    refine z_iconst (pc := 28) (v := (-1)) E dX11_both_28 (by decide) ?_
    cases hf
    exact z_iret E hr dX11_both_29
  · have hf := kN_s hf e6
    have hf_e6 := hf
    subst e6
    have hf := hf_e6
    refine z_qload (pc := 23) (k0 := 0) E dX11_both_23 rfl ?_
    refine z_ifnonnull (pc := 25) (tgt := 30) E dX11_both_25 (by decide) (fun w7 e8 => ?_) (fun e8 => ?_)
    · have hf := kN_s hf e8
      have hf_e8 := hf
      subst e8
      have hf := hf_e8
      refine z_aload_n (pc := 30) (k0 := 2) E dX11_both_30 rfl rfl ?_
      refine gX_2 (pc := 31) (i := 0) E rfl wd_1_21 dX11_both_31 ?_
      refine z_aload_n (pc := 34) (k0 := 2) E dX11_both_34 rfl rfl ?_
      refine gX_0 (pc := 35) (i := 0) E rfl wd_1_16 dX11_both_35 ?_
      obtain ⟨S_9, S_10, h11, hf⟩ := kD_e hf
      refine z_callV0 (pc := 38) (is := [3, 4, 1, 10]) (n := 1) (As := [.ref (aN 200)]) (st := []) (st' := []) (C2 := [wX aX (aN 200) (aK 200) (aT 200) (aR 200) (aV 6) gG gY gZ ct SX, wH aN ct SN, wH aK ct SK, wT aT (aH 200) ct S_9, wH aH ct S_10, wR aR ct SR, wV aV ct SV, wA gG 21 ct SG, wA gY 5 ct SY, wA gZ 5 ct SZ, wDp gG SD, wDh ct SE]) E (c_X10_start (l := l) (G := G) (ct := ct) (aT := aT) (aH := aH) (aK := aN) (gG := gG) h11) wv_X10_start wd_32_12 ⟨Nat.le_of_ble_eq_true rfl, Nat.le_of_ble_eq_true rfl, Nat.le_of_ble_eq_true rfl, Nat.le_of_ble_eq_true rfl⟩ rfl rfl rfl (by decide) rfl rfl (zrT (j := 0) rfl) rfl (Nat.le_of_ble_eq_true rfl) dX11_both_38 rfl rfl ?_
      refine z_aload_n (pc := 41) (k0 := 2) E dX11_both_41 rfl rfl ?_
      refine gX_2 (pc := 42) (i := 0) E rfl wd_1_21 dX11_both_42 ?_
      refine z_aload_n (pc := 45) (k0 := 1) E dX11_both_45 rfl rfl ?_
      refine z_aload (pc := 46) (k0 := 0) E dX11_both_46 rfl ?_
      obtain ⟨r12, S_13, S_14, S_15, h16, hf⟩ := kD4_e hf
      refine z_callV0 (pc := 48) (is := [3, 4, 10, 11]) (n := 2) (As := [.ref w5, .ref w7]) (st := []) (st' := [.int r12]) (C2 := [wX aX (aN 200) (aK 200) (aT 200) (aR 200) (aV 6) gG gY gZ ct SX, wH aN ct SN, wH aK ct SK, wT aT (aH 200) ct S_13, wH aH ct S_14, wR aR ct SR, wV aV ct SV, wA gG 21 ct SG, wA gY 5 ct SY, wA gZ 5 ct SZ, wDp gG SD, wDh ct S_15]) E (c_X10_sleepsAt (l := l) (G := G) (ct := ct) (aT := aT) (aH := aH) (gG := gG) h16) wv_X10_sleepsAt wd_34_21 ⟨Nat.le_of_ble_eq_true rfl, Nat.le_of_ble_eq_true rfl, Nat.le_of_ble_eq_true rfl, Nat.le_of_ble_eq_true rfl⟩ rfl rfl rfl (by decide) rfl rfl (zrT (j := 0) rfl) rfl (Nat.le_of_ble_eq_true rfl) dX11_both_48 rfl rfl ?_
      cases hf
      exact z_iret E hr dX11_both_51
    · have hf := kN_n hf e8
      refine z_iconst (pc := 28) (v := (-1)) E dX11_both_28 (by decide) ?_
      cases hf
      exact z_iret E hr dX11_both_29
noncomputable def f_X11_limit_l35 (N : Nat) (SX : zRS) (SN : zHS) (SK : zHS) (SR : zRS) (SV : (Nat → Nat → Int64)) (SG : (Nat → Int32)) (SY : (Nat → Int32)) (SZ : (Nat → Int32)) (SD : (List (Nat × zPS))) : Nat → zTS → zHS → ((List ((Nat → Nat) × zQS))) → Int32 → Nat → Int32 → Int32 → Int32 → Option (Int32 × zTS × zHS × ((List ((Nat → Nat) × zQS)))) := fun n => Nat.rec (motive := fun _ => zTS → zHS → ((List ((Nat → Nat) × zQS))) → Int32 → Nat → Int32 → Int32 → Int32 → Option (Int32 × zTS × zHS × ((List ((Nat → Nat) × zQS))))) (fun _ _ _ _ _ _ _ _ => none) (fun _ ih ST SH SE x2 x3 x4 x5 x6 => kB (99 < x6) (kB (x2 = 0) (some (x4, ST, SH, SE)) (some (x5, ST, SH, SE))) (kD (f_X10_start N ST SH SN SD) (fun S_9 S_10 => kL (hSI S_10 18 x6) (fun SH_12 => kD4 (f_X10_sleepsAt N S_9 SH_12 SD SE (some x3) (some x3)) (fun r13 S_14 S_15 S_16 => kC (f_X11_earlier r13 x5) (fun r18 => kB (r18 = 0) (kL (x6 + 1) (fun v21 => ih S_14 S_15 S_16 x2 x3 x4 x5 v21)) (kL (x6 + 1) (fun v22 => ih S_14 S_15 S_16 x2 x3 x6 r13 v22)))))))) n
theorem f_X11_limit_l35_z (N : Nat) (SX : zRS) (SN : zHS) (SK : zHS) (SR : zRS) (SV : (Nat → Nat → Int64)) (SG : (Nat → Int32)) (SY : (Nat → Int32)) (SZ : (Nat → Int32)) (SD : (List (Nat × zPS))) (ST : zTS) (SH : zHS) (SE : (List ((Nat → Nat) × zQS))) (x2 : Int32) (x3 : Nat) (x4 : Int32) (x5 : Int32) (x6 : Int32) : f_X11_limit_l35 N SX SN SK SR SV SG SY SZ SD 0 ST SH SE x2 x3 x4 x5 x6 = none := rfl
theorem f_X11_limit_l35_s (N : Nat) (SX : zRS) (SN : zHS) (SK : zHS) (SR : zRS) (SV : (Nat → Nat → Int64)) (SG : (Nat → Int32)) (SY : (Nat → Int32)) (SZ : (Nat → Int32)) (SD : (List (Nat × zPS))) (n : Nat) (ST : zTS) (SH : zHS) (SE : (List ((Nat → Nat) × zQS))) (x2 : Int32) (x3 : Nat) (x4 : Int32) (x5 : Int32) (x6 : Int32) : f_X11_limit_l35 N SX SN SK SR SV SG SY SZ SD (n + 1) ST SH SE x2 x3 x4 x5 x6 = kB (99 < x6) (kB (x2 = 0) (some (x4, ST, SH, SE)) (some (x5, ST, SH, SE))) (kD (f_X10_start N ST SH SN SD) (fun S_9 S_10 => kL (hSI S_10 18 x6) (fun SH_12 => kD4 (f_X10_sleepsAt N S_9 SH_12 SD SE (some x3) (some x3)) (fun r13 S_14 S_15 S_16 => kC (f_X11_earlier r13 x5) (fun r18 => kB (r18 = 0) (kL (x6 + 1) (fun v21 => (f_X11_limit_l35 N SX SN SK SR SV SG SY SZ SD n) S_14 S_15 S_16 x2 x3 x4 x5 v21)) (kL (x6 + 1) (fun v22 => (f_X11_limit_l35 N SX SN SK SR SV SG SY SZ SD n) S_14 S_15 S_16 x2 x3 x6 r13 v22))))))) := rfl
noncomputable def f_X11_limit (N : Nat) (SX : zRS) (SN : zHS) (SK : zHS) (ST : zTS) (SH : zHS) (SR : zRS) (SV : (Nat → Nat → Int64)) (SG : (Nat → Int32)) (SY : (Nat → Int32)) (SZ : (Nat → Int32)) (SD : (List (Nat × zPS))) (SE : (List ((Nat → Nat) × zQS))) (a1 : Int32) (a2 : Int32) : Option (Int32 × zTS × zHS × ((List ((Nat → Nat) × zQS)))) := kC (f_X1_person SN a1) (fun r1 => kN r1 (some ((-1), ST, SH, SE)) (fun w3 => kB (a2 < 0) (some ((-1), ST, SH, SE)) (kB (a2 ≤ 1) (f_X11_limit_l35 N SX SN SK SR SV SG SY SZ SD N ST SH SE a2 w3 (-5) (-5) 1) (some ((-1), ST, SH, SE)))))
theorem wv_X11_limit : zWV RX11 yX11_limit cX11_limit 8 (some .int) 2 := ⟨wd_35_23, wd_36_0, wd_1_2, wd_36_1, by decide +kernel⟩
def rm_X11_limit : Room := { frames := 7, cells := 0, slots := 0, locals := 193 }
set_option maxHeartbeats 4000000 in
set_option maxRecDepth 100000 in
theorem c_X11_limit {l : Launch} {G : va_G} {ct : Nat → ClassId} {aX : Nat → Nat} {aN : Nat → Nat} {aK : Nat → Nat} {aT : Nat → Nat} {aH : Nat → Nat} {aR : Nat → Nat} {aV : Nat → Nat} {gG : Nat} {gY : Nat} {gZ : Nat} {N : Nat} {SX : zRS} {SN : zHS} {SK : zHS} {ST : zTS} {SH : zHS} {SR : zRS} {SV : (Nat → Nat → Int64)} {SG : (Nat → Int32)} {SY : (Nat → Int32)} {SZ : (Nat → Int32)} {SD : (List (Nat × zPS))} {SE : (List ((Nat → Nat) × zQS))} {a1 : Int32} {a2 : Int32} {r0 : Int32} {OT : zTS} {OH : zHS} {OE : (List ((Nat → Nat) × zQS))} (hf : f_X11_limit N SX SN SK ST SH SR SV SG SY SZ SD SE a1 a2 = some (r0, OT, OH, OE)) : zC l yX11_limit cX11_limit 8 (some .int) rm_X11_limit G ct [.ref (aX 200), .int a1, .int a2] [wX aX (aN 200) (aK 200) (aT 200) (aR 200) (aV 6) gG gY gZ ct SX, wH aN ct SN, wH aK ct SK, wT aT (aH 200) ct ST, wH aH ct SH, wR aR ct SR, wV aV ct SV, wA gG 21 ct SG, wA gY 5 ct SY, wA gZ 5 ct SZ, wDp gG SD, wDh ct SE] [wX aX (aN 200) (aK 200) (aT 200) (aR 200) (aV 6) gG gY gZ ct SX, wH aN ct SN, wH aK ct SK, wT aT (aH 200) ct OT, wH aH ct OH, wR aR ct SR, wV aV ct SV, wA gG 21 ct SG, wA gY 5 ct SY, wA gZ 5 ct SZ, wDp gG SD, wDh ct OE] (some (.int r0)) 0 0 := by
  refine z_enter (own := RX11) (lv := [(0, .ref (aX 200)), (1, .int a1), (2, .int a2)]) (by decide) rfl (Nat.le_of_ble_eq_true rfl) rfl ?_
  intro p e s m args below meth c A E hr hnm
  have L35 : ∀ (n35 : Nat) (ST : zTS) (SH : zHS) (SE : (List ((Nat → Nat) × zQS))) (x2 : Int32) (x3 : Nat) (x4 : Int32) (x5 : Int32) (x6 : Int32), f_X11_limit_l35 N SX SN SK SR SV SG SY SZ SD n35 ST SH SE x2 x3 x4 x5 x6 = some (r0, OT, OH, OE) → zJ p l e rm_X11_limit s m args below meth c (zQ G ct (some (.int r0)) [wX aX (aN 200) (aK 200) (aT 200) (aR 200) (aV 6) gG gY gZ ct SX, wH aN ct SN, wH aK ct SK, wT aT (aH 200) ct OT, wH aH ct OH, wR aR ct SR, wV aV ct SV, wA gG 21 ct SG, wA gY 5 ct SY, wA gZ 5 ct SZ, wDp gG SD, wDh ct OE] A below args s 0 0) A G 8 0 0 [wX aX (aN 200) (aK 200) (aT 200) (aR 200) (aV 6) gG gY gZ ct SX, wH aN ct SN, wH aK ct SK, wT aT (aH 200) ct ST, wH aH ct SH, wR aR ct SR, wV aV ct SV, wA gG 21 ct SG, wA gY 5 ct SY, wA gZ 5 ct SZ, wDp gG SD, wDh ct SE] [(0, .ref (aX 200)), (2, .int x2), (3, .ref x3), (4, .int x4), (5, .int x5), (6, .int x6)] 35 [] := by
    intro n35
    induction n35 with
    | zero =>
      intro ST SH SE x2 x3 x4 x5 x6 hf
      rw [f_X11_limit_l35_z] at hf
      cases hf
    | succ n35 ih35 =>
      intro ST SH SE x2 x3 x4 x5 x6 hf
      rw [f_X11_limit_l35_s] at hf
      refine z_iload (pc := 35) (k0 := 5) E dX11_limit_35 rfl ?_
      refine z_bipush (pc := 37) (v := 99) E dX11_limit_37 (by decide) ?_
      refine z_icmp_gt (pc := 39) (tgt := 100) E dX11_limit_39 (by decide) (fun c7 => ?_) (fun c7 => ?_)
      · have hf := kB_t hf c7
        refine z_iload_n (pc := 100) (k0 := 1) E dX11_limit_100 rfl rfl ?_
        refine z_if_ne (pc := 101) (tgt := 109) E dX11_limit_101 (by decide) (fun c8 => ?_) (fun c8 => ?_)
        · have hf := kB_f hf c8
          refine z_iload (pc := 109) (k0 := 4) E dX11_limit_109 rfl ?_
          cases hf
          exact z_iret E hr dX11_limit_111
        · have hf := kB_t hf c8
          refine z_iload (pc := 104) (k0 := 3) E dX11_limit_104 rfl ?_
          refine z_goto (pc := 106) (tgt := 111) E dX11_limit_106 (by decide) ?_
          cases hf
          exact z_iret E hr dX11_limit_111
      · have hf := kB_f hf c7
        refine z_aload_n (pc := 42) (k0 := 0) E dX11_limit_42 rfl rfl ?_
        refine gX_2 (pc := 43) (i := 0) E rfl wd_1_21 dX11_limit_43 ?_
        refine z_aload_n (pc := 46) (k0 := 0) E dX11_limit_46 rfl rfl ?_
        refine gX_0 (pc := 47) (i := 0) E rfl wd_1_16 dX11_limit_47 ?_
        obtain ⟨S_9, S_10, h11, hf⟩ := kD_e hf
        refine z_callV0 (pc := 50) (is := [3, 4, 1, 10]) (n := 1) (As := [.ref (aN 200)]) (st := []) (st' := []) (C2 := [wX aX (aN 200) (aK 200) (aT 200) (aR 200) (aV 6) gG gY gZ ct SX, wH aN ct SN, wH aK ct SK, wT aT (aH 200) ct S_9, wH aH ct S_10, wR aR ct SR, wV aV ct SV, wA gG 21 ct SG, wA gY 5 ct SY, wA gZ 5 ct SZ, wDp gG SD, wDh ct SE]) E (c_X10_start (l := l) (G := G) (ct := ct) (aT := aT) (aH := aH) (aK := aN) (gG := gG) h11) wv_X10_start wd_32_12 ⟨Nat.le_of_ble_eq_true rfl, Nat.le_of_ble_eq_true rfl, Nat.le_of_ble_eq_true rfl, Nat.le_of_ble_eq_true rfl⟩ rfl rfl rfl (by decide) rfl rfl (zrT (j := 0) rfl) rfl (Nat.le_of_ble_eq_true rfl) dX11_limit_50 rfl rfl ?_
        refine z_aload_n (pc := 53) (k0 := 0) E dX11_limit_53 rfl rfl ?_
        refine gX_2 (pc := 54) (i := 0) E rfl wd_1_21 dX11_limit_54 ?_
        refine gT_0 (pc := 57) (i := 3) E rfl wd_32_10 dX11_limit_57 ?_
        refine z_iload (pc := 60) (k0 := 5) E dX11_limit_60 rfl ?_
        obtain ⟨SH_12, e_SH_12, hf⟩ := kL_e hf
        refine pH_18 (pc := 62) (i := 4) (S1 := SH_12) E rfl e_SH_12 wd_28_23 dX11_limit_62 ?_
        show zJ p l e rm_X11_limit s m args below meth c (zQ G ct (some (.int r0)) [wX aX (aN 200) (aK 200) (aT 200) (aR 200) (aV 6) gG gY gZ ct SX, wH aN ct SN, wH aK ct SK, wT aT (aH 200) ct OT, wH aH ct OH, wR aR ct SR, wV aV ct SV, wA gG 21 ct SG, wA gY 5 ct SY, wA gZ 5 ct SZ, wDp gG SD, wDh ct OE] A below args s 0 0) A G 8 0 0 [wX aX (aN 200) (aK 200) (aT 200) (aR 200) (aV 6) gG gY gZ ct SX, wH aN ct SN, wH aK ct SK, wT aT (aH 200) ct S_9, wH aH ct SH_12, wR aR ct SR, wV aV ct SV, wA gG 21 ct SG, wA gY 5 ct SY, wA gZ 5 ct SZ, wDp gG SD, wDh ct SE] [(0, .ref (aX 200)), (2, .int x2), (3, .ref x3), (4, .int x4), (5, .int x5), (6, .int x6)] 65 []
        refine z_aload_n (pc := 65) (k0 := 0) E dX11_limit_65 rfl rfl ?_
        refine gX_2 (pc := 66) (i := 0) E rfl wd_1_21 dX11_limit_66 ?_
        refine z_aload_n (pc := 69) (k0 := 2) E dX11_limit_69 rfl rfl ?_
        refine z_aload_n (pc := 70) (k0 := 2) E dX11_limit_70 rfl rfl ?_
        obtain ⟨r13, S_14, S_15, S_16, h17, hf⟩ := kD4_e hf
        refine z_callV0 (pc := 71) (is := [3, 4, 10, 11]) (n := 2) (As := [.ref x3, .ref x3]) (st := []) (st' := [.int r13]) (C2 := [wX aX (aN 200) (aK 200) (aT 200) (aR 200) (aV 6) gG gY gZ ct SX, wH aN ct SN, wH aK ct SK, wT aT (aH 200) ct S_14, wH aH ct S_15, wR aR ct SR, wV aV ct SV, wA gG 21 ct SG, wA gY 5 ct SY, wA gZ 5 ct SZ, wDp gG SD, wDh ct S_16]) E (c_X10_sleepsAt (l := l) (G := G) (ct := ct) (aT := aT) (aH := aH) (gG := gG) h17) wv_X10_sleepsAt wd_34_21 ⟨Nat.le_of_ble_eq_true rfl, Nat.le_of_ble_eq_true rfl, Nat.le_of_ble_eq_true rfl, Nat.le_of_ble_eq_true rfl⟩ rfl rfl rfl (by decide) rfl rfl (zrT (j := 0) rfl) rfl (Nat.le_of_ble_eq_true rfl) dX11_limit_71 rfl rfl ?_
        refine z_istore (pc := 74) (lv' := [(7, .int r13), (0, .ref (aX 200)), (2, .int x2), (3, .ref x3), (4, .int x4), (5, .int x5), (6, .int x6)]) E dX11_limit_74 (by decide) rfl ?_
        refine z_iload (pc := 76) (k0 := 0) E dX11_limit_76 rfl ?_
        refine z_iload (pc := 78) (k0 := 5) E dX11_limit_78 rfl ?_
        obtain ⟨r18, h19, hf⟩ := kC_e hf
        refine z_callS0 (pc := 80) (is := []) (n := 2) (As := [.int r13, .int x5]) (st := []) (st' := [.int r18]) (C2 := [wX aX (aN 200) (aK 200) (aT 200) (aR 200) (aV 6) gG gY gZ ct SX, wH aN ct SN, wH aK ct SK, wT aT (aH 200) ct S_14, wH aH ct S_15, wR aR ct SR, wV aV ct SV, wA gG 21 ct SG, wA gY 5 ct SY, wA gZ 5 ct SZ, wDp gG SD, wDh ct S_16]) E (c_X11_earlier (l := l) (G := G) (ct := ct)  h19) wv_X11_earlier wd_35_3 ⟨Nat.le_of_ble_eq_true rfl, Nat.le_of_ble_eq_true rfl, Nat.le_of_ble_eq_true rfl, Nat.le_of_ble_eq_true rfl⟩ rfl rfl rfl (by decide) rfl rfl rfl (Nat.le_of_ble_eq_true rfl) dX11_limit_80 rfl rfl ?_
        refine z_if_eq (pc := 83) (tgt := 94) E dX11_limit_83 (by decide) (fun c20 => ?_) (fun c20 => ?_)
        · have hf := kB_t hf c20
          obtain ⟨v21, e_v21, hf⟩ := kL_e hf
          refine z_iinc (pc := 94) (k0 := 6) (v := v21) (lv' := [(6, .int v21), (7, .int r13), (0, .ref (aX 200)), (2, .int x2), (3, .ref x3), (4, .int x4), (5, .int x5)]) E dX11_limit_94 rfl e_v21 (by decide) rfl ?_
          refine z_goto (pc := 97) (tgt := 35) E dX11_limit_97 (by decide) ?_
          refine z_sub [2, 3, 4, 5, 6, 0] (lv' := [(0, .ref (aX 200)), (2, .int x2), (3, .ref x3), (4, .int x4), (5, .int x5), (6, .int v21)]) rfl ?_
          exact ih35 S_14 S_15 S_16 x2 x3 x4 x5 v21 hf
        · have hf := kB_f hf c20
          refine z_iload (pc := 86) (k0 := 6) E dX11_limit_86 rfl ?_
          refine z_istore (pc := 88) (lv' := [(4, .int x6), (7, .int r13), (0, .ref (aX 200)), (2, .int x2), (3, .ref x3), (5, .int x5), (6, .int x6)]) E dX11_limit_88 (by decide) rfl ?_
          refine z_iload (pc := 90) (k0 := 1) E dX11_limit_90 rfl ?_
          refine z_istore (pc := 92) (lv' := [(5, .int r13), (4, .int x6), (7, .int r13), (0, .ref (aX 200)), (2, .int x2), (3, .ref x3), (6, .int x6)]) E dX11_limit_92 (by decide) rfl ?_
          obtain ⟨v22, e_v22, hf⟩ := kL_e hf
          refine z_iinc (pc := 94) (k0 := 6) (v := v22) (lv' := [(6, .int v22), (5, .int r13), (4, .int x6), (7, .int r13), (0, .ref (aX 200)), (2, .int x2), (3, .ref x3)]) E dX11_limit_94 rfl e_v22 (by decide) rfl ?_
          refine z_goto (pc := 97) (tgt := 35) E dX11_limit_97 (by decide) ?_
          refine z_sub [4, 5, 6, 2, 1, 0] (lv' := [(0, .ref (aX 200)), (2, .int x2), (3, .ref x3), (4, .int x6), (5, .int r13), (6, .int v22)]) rfl ?_
          exact ih35 S_14 S_15 S_16 x2 x3 x6 r13 v22 hf
  unfold f_X11_limit at hf
  refine z_aload_n (pc := 0) (k0 := 0) E dX11_limit_0 rfl rfl ?_
  refine gX_0 (pc := 1) (i := 0) E rfl wd_1_16 dX11_limit_1 ?_
  refine z_iload_n (pc := 4) (k0 := 1) E dX11_limit_4 rfl rfl ?_
  obtain ⟨r1, h2, hf⟩ := kC_e hf
  refine z_callV0 (pc := 5) (is := [1]) (n := 1) (As := [.int a1]) (st := []) (st' := [va_rf r1]) (C2 := [wX aX (aN 200) (aK 200) (aT 200) (aR 200) (aV 6) gG gY gZ ct SX, wH aN ct SN, wH aK ct SK, wT aT (aH 200) ct ST, wH aH ct SH, wR aR ct SR, wV aV ct SV, wA gG 21 ct SG, wA gY 5 ct SY, wA gZ 5 ct SZ, wDp gG SD, wDh ct SE]) E (c_X1_person (l := l) (G := G) (ct := ct) (aH := aN) h2) wv_X1_person wd_11_10 ⟨Nat.le_of_ble_eq_true rfl, Nat.le_of_ble_eq_true rfl, Nat.le_of_ble_eq_true rfl, Nat.le_of_ble_eq_true rfl⟩ rfl rfl rfl (by decide) rfl rfl (zrH (j := 0) rfl) rfl (Nat.le_of_ble_eq_true rfl) dX11_limit_5 rfl rfl ?_
  refine z_qstore_n (pc := 8) (lv' := [(3, va_rf r1), (0, .ref (aX 200)), (1, .int a1), (2, .int a2)]) E dX11_limit_8 rfl (by decide) rfl ?_
  refine z_qload_n (pc := 9) (k0 := 0) E dX11_limit_9 rfl rfl ?_
  refine z_ifnull (pc := 10) (tgt := 22) E dX11_limit_10 (by decide) (fun e4 => ?_) (fun w3 e4 => ?_)
  · have hf := kN_n hf e4
    refine z_iconst (pc := 22) (v := (-1)) E dX11_limit_22 (by decide) ?_
    cases hf
    exact z_iret E hr dX11_limit_23
  · have hf := kN_s hf e4
    have hf_e4 := hf
    subst e4
    have hf := hf_e4
    refine z_iload_n (pc := 13) (k0 := 3) E dX11_limit_13 rfl rfl ?_
    refine z_if_lt (pc := 14) (tgt := 22) E dX11_limit_14 (by decide) (fun c5 => ?_) (fun c5 => ?_)
    · have hf := kB_t hf c5
      refine z_iconst (pc := 22) (v := (-1)) E dX11_limit_22 (by decide) ?_
      cases hf
      exact z_iret E hr dX11_limit_23
    · have hf := kB_f hf c5
      refine z_iload_n (pc := 17) (k0 := 3) E dX11_limit_17 rfl rfl ?_
      refine z_iconst (pc := 18) (v := 1) E dX11_limit_18 (by decide) ?_
      refine z_icmp_le (pc := 19) (tgt := 24) E dX11_limit_19 (by decide) (fun c6 => ?_) (fun c6 => ?_)
      · have hf := kB_t hf c6
        refine z_bipush (pc := 24) (v := (-5)) E dX11_limit_24 (by decide) ?_
        refine z_istore (pc := 26) (lv' := [(4, .int (-5)), (3, .ref w3), (0, .ref (aX 200)), (1, .int a1), (2, .int a2)]) E dX11_limit_26 (by decide) rfl ?_
        refine z_bipush (pc := 28) (v := (-5)) E dX11_limit_28 (by decide) ?_
        refine z_istore (pc := 30) (lv' := [(5, .int (-5)), (4, .int (-5)), (3, .ref w3), (0, .ref (aX 200)), (1, .int a1), (2, .int a2)]) E dX11_limit_30 (by decide) rfl ?_
        refine z_iconst (pc := 32) (v := 1) E dX11_limit_32 (by decide) ?_
        refine z_istore (pc := 33) (lv' := [(6, .int 1), (5, .int (-5)), (4, .int (-5)), (3, .ref w3), (0, .ref (aX 200)), (1, .int a1), (2, .int a2)]) E dX11_limit_33 (by decide) rfl ?_
        refine z_sub [4, 6, 3, 2, 1, 0] (lv' := [(0, .ref (aX 200)), (2, .int a2), (3, .ref w3), (4, .int (-5)), (5, .int (-5)), (6, .int 1)]) rfl ?_
        exact L35 N ST SH SE a2 w3 (-5) (-5) 1 hf
      · have hf := kB_f hf c6
        refine z_iconst (pc := 22) (v := (-1)) E dX11_limit_22 (by decide) ?_
        cases hf
        exact z_iret E hr dX11_limit_23
