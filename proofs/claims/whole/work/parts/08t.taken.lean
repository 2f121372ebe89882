noncomputable def f_X11_taken_l38 (N : Nat) (SX : zRS) (SN : zHS) (SK : zHS) (ST : zTS) (SH : zHS) (SR : zRS) (SV : (Nat → Nat → Int64)) (SG : (Nat → Int32)) (SY : (Nat → Int32)) (SZ : (Nat → Int32)) (SD : (List (Nat × zPS))) (SE : (List ((Nat → Nat) × zQS))) : Nat → Int32 → Nat → Int32 → Int32 → Option Int32 := fun n => Nat.rec (motive := fun _ => Int32 → Nat → Int32 → Int32 → Option Int32) (fun _ _ _ _ => none) (fun _ ih x2 x3 x4 x5 => kB (7 ≤ x5) (some ((-12))) (kB (x4 < 0) (some ((-12))) (kB (7 ≤ x4) (some ((-12))) (kB (x4 = x2) (kC (plook SD x3) (fun pv18 => some ((pv18.1)))) (kO (¬ (x4 < 0 ∨ 7 ≤ Int32.toNatClampNeg x4)) (kL (x5 + 1) (fun v17 => ih x2 x3 (([-1, 0, 0, 0, 1, 2, 3] : List Int32).getD (Int32.toNatClampNeg x4) 0) v17))))))) n
theorem f_X11_taken_l38_z (N : Nat) (SX : zRS) (SN : zHS) (SK : zHS) (ST : zTS) (SH : zHS) (SR : zRS) (SV : (Nat → Nat → Int64)) (SG : (Nat → Int32)) (SY : (Nat → Int32)) (SZ : (Nat → Int32)) (SD : (List (Nat × zPS))) (SE : (List ((Nat → Nat) × zQS))) (x2 : Int32) (x3 : Nat) (x4 : Int32) (x5 : Int32) : f_X11_taken_l38 N SX SN SK ST SH SR SV SG SY SZ SD SE 0 x2 x3 x4 x5 = none := rfl
theorem f_X11_taken_l38_s (N : Nat) (SX : zRS) (SN : zHS) (SK : zHS) (ST : zTS) (SH : zHS) (SR : zRS) (SV : (Nat → Nat → Int64)) (SG : (Nat → Int32)) (SY : (Nat → Int32)) (SZ : (Nat → Int32)) (SD : (List (Nat × zPS))) (SE : (List ((Nat → Nat) × zQS))) (n : Nat) (x2 : Int32) (x3 : Nat) (x4 : Int32) (x5 : Int32) : f_X11_taken_l38 N SX SN SK ST SH SR SV SG SY SZ SD SE (n + 1) x2 x3 x4 x5 = kB (7 ≤ x5) (some ((-12))) (kB (x4 < 0) (some ((-12))) (kB (7 ≤ x4) (some ((-12))) (kB (x4 = x2) (kC (plook SD x3) (fun pv18 => some ((pv18.1)))) (kO (¬ (x4 < 0 ∨ 7 ≤ Int32.toNatClampNeg x4)) (kL (x5 + 1) (fun v17 => (f_X11_taken_l38 N SX SN SK ST SH SR SV SG SY SZ SD SE n) x2 x3 (([-1, 0, 0, 0, 1, 2, 3] : List Int32).getD (Int32.toNatClampNeg x4) 0) v17)))))) := rfl
noncomputable def f_X11_taken (N : Nat) (SX : zRS) (SN : zHS) (SK : zHS) (ST : zTS) (SH : zHS) (SR : zRS) (SV : (Nat → Nat → Int64)) (SG : (Nat → Int32)) (SY : (Nat → Int32)) (SZ : (Nat → Int32)) (SD : (List (Nat × zPS))) (SE : (List ((Nat → Nat) × zQS))) (a1 : Int32) (a2 : Int32) : Option Int32 := kB (a2 < 0) (some ((-2))) (kB (a2 < 7) (kC (f_X1_person SN a1) (fun r3 => kN r3 (some ((-11))) (fun w5 => kC (plook SD w5) (fun pv7 => f_X11_taken_l38 N SX SN SK ST SH SR SV SG SY SZ SD SE N a2 w5 (pv7.1) 0)))) (some ((-2))))
theorem wv_X11_taken : zWV RX11 yX11_taken cX11_taken 6 (some .int) 2 := ⟨wd_50_16, wd_50_17, wd_1_2, wd_50_18, by decide +kernel⟩
def rm_X11_taken : Room := { frames := 1, cells := 0, slots := 0, locals := 21 }
set_option maxHeartbeats 4000000 in
set_option maxRecDepth 100000 in
theorem c_X11_taken {adK adV : Nat → Nat} {tA : Nat} {l : Launch} {G : va_G} {ct : Nat → ClassId} {aX : Nat → Nat} {aN : Nat → Nat} {aK : Nat → Nat} {aT : Nat → Nat} {aH : Nat → Nat} {aR : Nat → Nat} {aV : Nat → Nat} {gG : Nat} {gY : Nat} {gZ : Nat} {N : Nat} {SX : zRS} {SN : zHS} {SK : zHS} {ST : zTS} {SH : zHS} {SR : zRS} {SV : (Nat → Nat → Int64)} {SG : (Nat → Int32)} {SY : (Nat → Int32)} {SZ : (Nat → Int32)} {SD : (List (Nat × zPS))} {SE : (List ((Nat → Nat) × zQS))} {a1 : Int32} {a2 : Int32} {r0 : Int32} (hf : f_X11_taken N SX SN SK ST SH SR SV SG SY SZ SD SE a1 a2 = some r0) : zCE adK adV tA l yX11_taken cX11_taken 6 (some .int) rm_X11_taken G ct [.ref (aX 200), .int a1, .int a2] [wX aX (aN 200) (aK 200) (aT 200) (aR 200) (aV 6) gG gY gZ ct SX, wH aN ct SN, wH aK ct SK, wT aT (aH 200) ct ST, wH aH ct SH, wR aR ct SR, wV aV ct SV, wA gG 21 ct SG, wA gY 5 ct SY, wA gZ 5 ct SZ, wDp gG SD, wDh ct SE] [wX aX (aN 200) (aK 200) (aT 200) (aR 200) (aV 6) gG gY gZ ct SX, wH aN ct SN, wH aK ct SK, wT aT (aH 200) ct ST, wH aH ct SH, wR aR ct SR, wV aV ct SV, wA gG 21 ct SG, wA gY 5 ct SY, wA gZ 5 ct SZ, wDp gG SD, wDh ct SE] (some (.int r0)) 0 0 := by
  refine z_enterE (own := RX11) (lv := [(0, .ref (aX 200)), (1, .int a1), (2, .int a2)]) (by decide) rfl (Nat.le_of_ble_eq_true rfl) rfl ?_
  intro p e s m args below meth c A E hr hnm hEnv
  have L38 : ∀ (n38 : Nat) (x2 : Int32) (x3 : Nat) (x4 : Int32) (x5 : Int32), f_X11_taken_l38 N SX SN SK ST SH SR SV SG SY SZ SD SE n38 x2 x3 x4 x5 = some r0 → zJ p l e rm_X11_taken s m args below meth c (zQ G ct (some (.int r0)) [wX aX (aN 200) (aK 200) (aT 200) (aR 200) (aV 6) gG gY gZ ct SX, wH aN ct SN, wH aK ct SK, wT aT (aH 200) ct ST, wH aH ct SH, wR aR ct SR, wV aV ct SV, wA gG 21 ct SG, wA gY 5 ct SY, wA gZ 5 ct SZ, wDp gG SD, wDh ct SE] A below args s 0 0) A G 6 0 0 [wX aX (aN 200) (aK 200) (aT 200) (aR 200) (aV 6) gG gY gZ ct SX, wH aN ct SN, wH aK ct SK, wT aT (aH 200) ct ST, wH aH ct SH, wR aR ct SR, wV aV ct SV, wA gG 21 ct SG, wA gY 5 ct SY, wA gZ 5 ct SZ, wDp gG SD, wDh ct SE] [(2, .int x2), (3, .ref x3), (4, .int x4), (5, .int x5)] 38 [] := by
    intro n38
    induction n38 with
    | zero =>
      intro x2 x3 x4 x5 hf
      rw [f_X11_taken_l38_z] at hf
      cases hf
    | succ n38 ih38 =>
      intro x2 x3 x4 x5 hf
      rw [f_X11_taken_l38_s] at hf
      refine z_iload (pc := 38) (k0 := 3) E dX11_taken_38 rfl ?_
      refine z_bipush (pc := 40) (v := 7) E dX11_taken_40 (by decide) ?_
      refine z_icmp_ge (pc := 42) (tgt := 82) E dX11_taken_42 (by decide) (fun c12 => ?_) (fun c12 => ?_)
      · have hf := kB_t hf c12
        refine z_bipush (pc := 82) (v := (-12)) E dX11_taken_82 (by decide) ?_
        cases hf
        exact z_iret E hr dX11_taken_84
      · have hf := kB_f hf c12
        refine z_iload (pc := 45) (k0 := 2) E dX11_taken_45 rfl ?_
        refine z_if_lt (pc := 47) (tgt := 82) E dX11_taken_47 (by decide) (fun c13 => ?_) (fun c13 => ?_)
        · have hf := kB_t hf c13
          refine z_bipush (pc := 82) (v := (-12)) E dX11_taken_82 (by decide) ?_
          cases hf
          exact z_iret E hr dX11_taken_84
        · have hf := kB_f hf c13
          refine z_iload (pc := 50) (k0 := 2) E dX11_taken_50 rfl ?_
          refine z_bipush (pc := 52) (v := 7) E dX11_taken_52 (by decide) ?_
          refine z_icmp_ge (pc := 54) (tgt := 82) E dX11_taken_54 (by decide) (fun c14 => ?_) (fun c14 => ?_)
          · have hf := kB_t hf c14
            refine z_bipush (pc := 82) (v := (-12)) E dX11_taken_82 (by decide) ?_
            cases hf
            exact z_iret E hr dX11_taken_84
          · have hf := kB_f hf c14
            refine z_iload (pc := 57) (k0 := 2) E dX11_taken_57 rfl ?_
            refine z_iload_n (pc := 59) (k0 := 0) E dX11_taken_59 rfl rfl ?_
            refine z_icmp_ne (pc := 60) (tgt := 68) E dX11_taken_60 (by decide) (fun c15 => ?_) (fun c15 => ?_)
            · have hf := kB_f hf c15
              refine z_above (pc := 68) E hEnv wd_50_19 dX11_taken_68 ?_
              refine z_iload (pc := 71) (k0 := 2) E dX11_taken_71 rfl ?_
              obtain ⟨c16, hf⟩ := kO_e hf
              refine z_aboveAt (pc := 73) E hEnv c16 dX11_taken_73 ?_
              refine z_istore (pc := 74) (lv' := [(4, .int (([-1, 0, 0, 0, 1, 2, 3] : List Int32).getD (Int32.toNatClampNeg x4) 0)), (2, .int x2), (3, .ref x3), (5, .int x5)]) E dX11_taken_74 (by decide) rfl ?_
              obtain ⟨v17, e_v17, hf⟩ := kL_e hf
              refine z_iinc (pc := 76) (k0 := 3) (v := v17) (lv' := [(5, .int v17), (4, .int (([-1, 0, 0, 0, 1, 2, 3] : List Int32).getD (Int32.toNatClampNeg x4) 0)), (2, .int x2), (3, .ref x3)]) E dX11_taken_76 rfl e_v17 (by decide) rfl ?_
              refine z_goto (pc := 79) (tgt := 38) E dX11_taken_79 (by decide) ?_
              refine z_sub [2, 3, 1, 0] (lv' := [(2, .int x2), (3, .ref x3), (4, .int (([-1, 0, 0, 0, 1, 2, 3] : List Int32).getD (Int32.toNatClampNeg x4) 0)), (5, .int v17)]) rfl ?_
              exact ih38 x2 x3 (([-1, 0, 0, 0, 1, 2, 3] : List Int32).getD (Int32.toNatClampNeg x4) 0) v17 hf
            · have hf := kB_t hf c15
              refine z_aload_n (pc := 63) (k0 := 1) E dX11_taken_63 rfl rfl ?_
              obtain ⟨pv18, hp19, hf⟩ := kC_e hf
              obtain ⟨DA20, DB21, eD22⟩ := wDp_at (g := gG) hp19
              refine z_world (Cs' := [wX aX (aN 200) (aK 200) (aT 200) (aR 200) (aV 6) gG gY gZ ct SX, wH aN ct SN, wH aK ct SK, wT aT (aH 200) ct ST, wH aH ct SH, wR aR ct SR, wV aV ct SV, wA gG 21 ct SG, wA gY 5 ct SY, wA gZ 5 ct SZ, DA20, wPa gG x3 pv18, DB21, wDh ct SE]) (by rw [eD22]; simp [zfl]) ?_
              refine gP_0 (pc := 64) (i := 11) E rfl wd_11_8 (fun _ h => h) dX11_taken_64 ?_
              refine z_world (Cs' := [wX aX (aN 200) (aK 200) (aT 200) (aR 200) (aV 6) gG gY gZ ct SX, wH aN ct SN, wH aK ct SK, wT aT (aH 200) ct ST, wH aH ct SH, wR aR ct SR, wV aV ct SV, wA gG 21 ct SG, wA gY 5 ct SY, wA gZ 5 ct SZ, wDp gG SD, wDh ct SE]) (by rw [eD22]; simp [zfl]) ?_
              cases hf
              exact z_iret E hr dX11_taken_67
  unfold f_X11_taken at hf
  refine z_iload_n (pc := 0) (k0 := 2) E dX11_taken_0 rfl rfl ?_
  refine z_if_lt (pc := 1) (tgt := 10) E dX11_taken_1 (by decide) (fun c1 => ?_) (fun c1 => ?_)
  · have hf := kB_t hf c1
    refine z_bipush (pc := 10) (v := (-2)) E dX11_taken_10 (by decide) ?_
    cases hf
    exact z_iret E hr dX11_taken_12
  · have hf := kB_f hf c1
    refine z_iload_n (pc := 4) (k0 := 2) E dX11_taken_4 rfl rfl ?_
    refine z_bipush (pc := 5) (v := 7) E dX11_taken_5 (by decide) ?_
    refine z_icmp_lt (pc := 7) (tgt := 13) E dX11_taken_7 (by decide) (fun c2 => ?_) (fun c2 => ?_)
    · have hf := kB_t hf c2
      refine z_aload_n (pc := 13) (k0 := 0) E dX11_taken_13 rfl rfl ?_
      refine gX_0 (pc := 14) (i := 0) E rfl wd_1_16 dX11_taken_14 ?_
      refine z_iload_n (pc := 17) (k0 := 1) E dX11_taken_17 rfl rfl ?_
      obtain ⟨r3, h4, hf⟩ := kC_e hf
      refine z_callV0 (pc := 18) (is := [1]) (n := 1) (As := [.int a1]) (st := []) (st' := [va_rf r3]) (C2 := [wX aX (aN 200) (aK 200) (aT 200) (aR 200) (aV 6) gG gY gZ ct SX, wH aN ct SN, wH aK ct SK, wT aT (aH 200) ct ST, wH aH ct SH, wR aR ct SR, wV aV ct SV, wA gG 21 ct SG, wA gY 5 ct SY, wA gZ 5 ct SZ, wDp gG SD, wDh ct SE]) E (c_X1_person (l := l) (G := G) (ct := ct) (aH := aN) h4) wv_X1_person wd_11_10 ⟨Nat.le_of_ble_eq_true rfl, Nat.le_of_ble_eq_true rfl, Nat.le_of_ble_eq_true rfl, Nat.le_of_ble_eq_true rfl⟩ rfl rfl rfl (by decide) rfl rfl (zrH (j := 0) rfl) rfl (Nat.le_of_ble_eq_true rfl) dX11_taken_18 rfl rfl ?_
      refine z_qstore_n (pc := 21) (lv' := [(3, va_rf r3), (0, .ref (aX 200)), (1, .int a1), (2, .int a2)]) E dX11_taken_21 rfl (by decide) rfl ?_
      refine z_qload_n (pc := 22) (k0 := 0) E dX11_taken_22 rfl rfl ?_
      refine z_ifnonnull (pc := 23) (tgt := 29) E dX11_taken_23 (by decide) (fun w5 e6 => ?_) (fun e6 => ?_)
      · have hf := kN_s hf e6
        have hf_e6 := hf
        subst e6
        have hf := hf_e6
        refine z_aload_n (pc := 29) (k0 := 0) E dX11_taken_29 rfl rfl ?_
        obtain ⟨pv7, hp8, hf⟩ := kC_e hf
        obtain ⟨DA9, DB10, eD11⟩ := wDp_at (g := gG) hp8
        refine z_world (Cs' := [wX aX (aN 200) (aK 200) (aT 200) (aR 200) (aV 6) gG gY gZ ct SX, wH aN ct SN, wH aK ct SK, wT aT (aH 200) ct ST, wH aH ct SH, wR aR ct SR, wV aV ct SV, wA gG 21 ct SG, wA gY 5 ct SY, wA gZ 5 ct SZ, DA9, wPa gG w5 pv7, DB10, wDh ct SE]) (by rw [eD11]; simp [zfl]) ?_
        refine gP_0 (pc := 30) (i := 11) E rfl wd_11_8 (fun _ h => h) dX11_taken_30 ?_
        refine z_world (Cs' := [wX aX (aN 200) (aK 200) (aT 200) (aR 200) (aV 6) gG gY gZ ct SX, wH aN ct SN, wH aK ct SK, wT aT (aH 200) ct ST, wH aH ct SH, wR aR ct SR, wV aV ct SV, wA gG 21 ct SG, wA gY 5 ct SY, wA gZ 5 ct SZ, wDp gG SD, wDh ct SE]) (by rw [eD11]; simp [zfl]) ?_
        refine z_istore (pc := 33) (lv' := [(4, .int (pv7.1)), (3, .ref w5), (0, .ref (aX 200)), (1, .int a1), (2, .int a2)]) E dX11_taken_33 (by decide) rfl ?_
        refine z_iconst (pc := 35) (v := 0) E dX11_taken_35 (by decide) ?_
        refine z_istore (pc := 36) (lv' := [(5, .int 0), (4, .int (pv7.1)), (3, .ref w5), (0, .ref (aX 200)), (1, .int a1), (2, .int a2)]) E dX11_taken_36 (by decide) rfl ?_
        refine z_sub [5, 2, 1, 0] (lv' := [(2, .int a2), (3, .ref w5), (4, .int (pv7.1)), (5, .int 0)]) rfl ?_
        exact L38 N a2 w5 (pv7.1) 0 hf
      · have hf := kN_n hf e6
        refine z_bipush (pc := 26) (v := (-11)) E dX11_taken_26 (by decide) ?_
        cases hf
        exact z_iret E hr dX11_taken_28
    · have hf := kB_f hf c2
      refine z_bipush (pc := 10) (v := (-2)) E dX11_taken_10 (by decide) ?_
      cases hf
      exact z_iret E hr dX11_taken_12
