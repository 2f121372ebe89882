noncomputable def f_X11_trace (SX : zRS) (SN : zHS) (SK : zHS) (ST : zTS) (SH : zHS) (SR : zRS) (SV : (Nat → Nat → Int64)) (SG : (Nat → Int32)) (SY : (Nat → Int32)) (SZ : (Nat → Int32)) (SD : (List (Nat × zPS))) (SE : (List ((Nat → Nat) × zQS))) (a1 : Int32) : Option Int32 := kB (a1 < 0) (some ((-1))) (kB (20 ≤ a1) (some ((-1))) (kO (¬ ((20 : Int32) < 0 ∨ 21 ≤ Int32.toNatClampNeg 20)) (kB (a1 < (SG (Int32.toNatClampNeg 20))) (kO (¬ (a1 < 0 ∨ 21 ≤ Int32.toNatClampNeg a1)) (some ((SG (Int32.toNatClampNeg a1))))) (some ((-1))))))
theorem wv_X11_trace : zWV RX11 yX11_trace cX11_trace 2 (some .int) 1 := ⟨wd_50_8, wd_50_9, wd_1_2, wd_50_10, by decide +kernel⟩
def rm_X11_trace : Room := { frames := 0, cells := 0, slots := 0, locals := 0 }
set_option maxHeartbeats 4000000 in
set_option maxRecDepth 100000 in
theorem c_X11_trace {l : Launch} {G : va_G} {ct : Nat → ClassId} {aX : Nat → Nat} {aN : Nat → Nat} {aK : Nat → Nat} {aT : Nat → Nat} {aH : Nat → Nat} {aR : Nat → Nat} {aV : Nat → Nat} {gG : Nat} {gY : Nat} {gZ : Nat} {SX : zRS} {SN : zHS} {SK : zHS} {ST : zTS} {SH : zHS} {SR : zRS} {SV : (Nat → Nat → Int64)} {SG : (Nat → Int32)} {SY : (Nat → Int32)} {SZ : (Nat → Int32)} {SD : (List (Nat × zPS))} {SE : (List ((Nat → Nat) × zQS))} {a1 : Int32} {r0 : Int32} (hf : f_X11_trace SX SN SK ST SH SR SV SG SY SZ SD SE a1 = some r0) : zC l yX11_trace cX11_trace 2 (some .int) rm_X11_trace G ct [.ref (aX 200), .int a1] [wX aX (aN 200) (aK 200) (aT 200) (aR 200) (aV 6) gG gY gZ ct SX, wH aN ct SN, wH aK ct SK, wT aT (aH 200) ct ST, wH aH ct SH, wR aR ct SR, wV aV ct SV, wA gG 21 ct SG, wA gY 5 ct SY, wA gZ 5 ct SZ, wDp gG SD, wDh ct SE] [wX aX (aN 200) (aK 200) (aT 200) (aR 200) (aV 6) gG gY gZ ct SX, wH aN ct SN, wH aK ct SK, wT aT (aH 200) ct ST, wH aH ct SH, wR aR ct SR, wV aV ct SV, wA gG 21 ct SG, wA gY 5 ct SY, wA gZ 5 ct SZ, wDp gG SD, wDh ct SE] (some (.int r0)) 0 0 := by
  refine z_enter (own := RX11) (lv := [(0, .ref (aX 200)), (1, .int a1)]) (by decide) rfl (Nat.le_of_ble_eq_true rfl) rfl ?_
  intro p e s m args below meth c A E hr hnm
  unfold f_X11_trace at hf
  refine z_iload_n (pc := 0) (k0 := 1) E dX11_trace_0 rfl rfl ?_
  refine z_if_lt (pc := 1) (tgt := 21) E dX11_trace_1 (by decide) (fun c1 => ?_) (fun c1 => ?_)
  · have hf := kB_t hf c1
    refine z_iconst (pc := 21) (v := (-1)) E dX11_trace_21 (by decide) ?_
    cases hf
    exact z_iret E hr dX11_trace_22
  · have hf := kB_f hf c1
    refine z_iload_n (pc := 4) (k0 := 1) E dX11_trace_4 rfl rfl ?_
    refine z_bipush (pc := 5) (v := 20) E dX11_trace_5 (by decide) ?_
    refine z_icmp_ge (pc := 7) (tgt := 21) E dX11_trace_7 (by decide) (fun c2 => ?_) (fun c2 => ?_)
    · have hf := kB_t hf c2
      refine z_iconst (pc := 21) (v := (-1)) E dX11_trace_21 (by decide) ?_
      cases hf
      exact z_iret E hr dX11_trace_22
    · have hf := kB_f hf c2
      refine z_iload_n (pc := 10) (k0 := 1) E dX11_trace_10 rfl rfl ?_
      refine z_aload_n (pc := 11) (k0 := 0) E dX11_trace_11 rfl rfl ?_
      refine gX_7 (pc := 12) (i := 0) E rfl wd_2_8 dX11_trace_12 ?_
      refine z_bipush (pc := 15) (v := 20) E dX11_trace_15 (by decide) ?_
      obtain ⟨c3, hf⟩ := kO_e hf
      refine lA_0 (pc := 17) (i := 7) E rfl c3 dX11_trace_17 ?_
      refine z_icmp_lt (pc := 18) (tgt := 23) E dX11_trace_18 (by decide) (fun c4 => ?_) (fun c4 => ?_)
      · have hf := kB_t hf c4
        refine z_aload_n (pc := 23) (k0 := 0) E dX11_trace_23 rfl rfl ?_
        refine gX_7 (pc := 24) (i := 0) E rfl wd_2_8 dX11_trace_24 ?_
        refine z_iload_n (pc := 27) (k0 := 1) E dX11_trace_27 rfl rfl ?_
        obtain ⟨c5, hf⟩ := kO_e hf
        refine lA_0 (pc := 28) (i := 7) E rfl c5 dX11_trace_28 ?_
        cases hf
        exact z_iret E hr dX11_trace_29
      · have hf := kB_f hf c4
        refine z_iconst (pc := 21) (v := (-1)) E dX11_trace_21 (by decide) ?_
        cases hf
        exact z_iret E hr dX11_trace_22
noncomputable def f_X11_count (SX : zRS) (SN : zHS) (SK : zHS) (ST : zTS) (SH : zHS) (SR : zRS) (SV : (Nat → Nat → Int64)) (SG : (Nat → Int32)) (SY : (Nat → Int32)) (SZ : (Nat → Int32)) (SD : (List (Nat × zPS))) (SE : (List ((Nat → Nat) × zQS))) (a1 : Int32) : Option Int32 := kB (a1 = 0) (some ((SN.1 8))) (kB (a1 = 1) (some ((SN.1 7))) (kB (a1 = 2) (some ((SX.1 10))) (kB (a1 = 3) (some ((SN.1 9))) (kB (a1 = 4) (some ((SN.1 10))) (kB (a1 = 5) (some ((SR.1 5))) (kB (a1 = 6) (kO (¬ ((20 : Int32) < 0 ∨ 21 ≤ Int32.toNatClampNeg 20)) (some ((SG (Int32.toNatClampNeg 20))))) (some ((-2)))))))))
theorem wv_X11_count : zWV RX11 yX11_count cX11_count 2 (some .int) 1 := ⟨wd_51_1, wd_51_2, wd_1_2, wd_51_3, by decide +kernel⟩
def rm_X11_count : Room := { frames := 0, cells := 0, slots := 0, locals := 0 }
set_option maxHeartbeats 4000000 in
set_option maxRecDepth 100000 in
theorem c_X11_count {l : Launch} {G : va_G} {ct : Nat → ClassId} {aX : Nat → Nat} {aN : Nat → Nat} {aK : Nat → Nat} {aT : Nat → Nat} {aH : Nat → Nat} {aR : Nat → Nat} {aV : Nat → Nat} {gG : Nat} {gY : Nat} {gZ : Nat} {SX : zRS} {SN : zHS} {SK : zHS} {ST : zTS} {SH : zHS} {SR : zRS} {SV : (Nat → Nat → Int64)} {SG : (Nat → Int32)} {SY : (Nat → Int32)} {SZ : (Nat → Int32)} {SD : (List (Nat × zPS))} {SE : (List ((Nat → Nat) × zQS))} {a1 : Int32} {r0 : Int32} (hf : f_X11_count SX SN SK ST SH SR SV SG SY SZ SD SE a1 = some r0) : zC l yX11_count cX11_count 2 (some .int) rm_X11_count G ct [.ref (aX 200), .int a1] [wX aX (aN 200) (aK 200) (aT 200) (aR 200) (aV 6) gG gY gZ ct SX, wH aN ct SN, wH aK ct SK, wT aT (aH 200) ct ST, wH aH ct SH, wR aR ct SR, wV aV ct SV, wA gG 21 ct SG, wA gY 5 ct SY, wA gZ 5 ct SZ, wDp gG SD, wDh ct SE] [wX aX (aN 200) (aK 200) (aT 200) (aR 200) (aV 6) gG gY gZ ct SX, wH aN ct SN, wH aK ct SK, wT aT (aH 200) ct ST, wH aH ct SH, wR aR ct SR, wV aV ct SV, wA gG 21 ct SG, wA gY 5 ct SY, wA gZ 5 ct SZ, wDp gG SD, wDh ct SE] (some (.int r0)) 0 0 := by
  refine z_enter (own := RX11) (lv := [(0, .ref (aX 200)), (1, .int a1)]) (by decide) rfl (Nat.le_of_ble_eq_true rfl) rfl ?_
  intro p e s m args below meth c A E hr hnm
  unfold f_X11_count at hf
  refine z_iload_n (pc := 0) (k0 := 1) E dX11_count_0 rfl rfl ?_
  by_cases c1 : a1 = 0
  · have hf := kB_t hf c1
    refine z_tswIn (pc := 1) (tgt := 44) (v := 0) (n := 0) (off := 43) E dX11_count_1 c1 (by decide) (by decide) (by decide) (by decide) (by decide) ?_
    refine z_aload_n (pc := 44) (k0 := 0) E dX11_count_44 rfl rfl ?_
    refine gX_0 (pc := 45) (i := 0) E rfl wd_1_16 dX11_count_45 ?_
    refine gH_8 (pc := 48) (i := 1) E rfl wd_7_19 dX11_count_48 ?_
    cases hf
    exact z_iret E hr dX11_count_51
  have hf := kB_f hf c1
  by_cases c2 : a1 = 1
  · have hf := kB_t hf c2
    refine z_tswIn (pc := 1) (tgt := 52) (v := 1) (n := 1) (off := 51) E dX11_count_1 c2 (by decide) (by decide) (by decide) (by decide) (by decide) ?_
    refine z_aload_n (pc := 52) (k0 := 0) E dX11_count_52 rfl rfl ?_
    refine gX_0 (pc := 53) (i := 0) E rfl wd_1_16 dX11_count_53 ?_
    refine gH_7 (pc := 56) (i := 1) E rfl wd_7_3 dX11_count_56 ?_
    cases hf
    exact z_iret E hr dX11_count_59
  have hf := kB_f hf c2
  by_cases c3 : a1 = 2
  · have hf := kB_t hf c3
    refine z_tswIn (pc := 1) (tgt := 60) (v := 2) (n := 2) (off := 59) E dX11_count_1 c3 (by decide) (by decide) (by decide) (by decide) (by decide) ?_
    refine z_aload_n (pc := 60) (k0 := 0) E dX11_count_60 rfl rfl ?_
    refine gX_10 (pc := 61) (i := 0) E rfl wd_18_11 dX11_count_61 ?_
    cases hf
    exact z_iret E hr dX11_count_64
  have hf := kB_f hf c3
  by_cases c4 : a1 = 3
  · have hf := kB_t hf c4
    refine z_tswIn (pc := 1) (tgt := 65) (v := 3) (n := 3) (off := 64) E dX11_count_1 c4 (by decide) (by decide) (by decide) (by decide) (by decide) ?_
    refine z_aload_n (pc := 65) (k0 := 0) E dX11_count_65 rfl rfl ?_
    refine gX_0 (pc := 66) (i := 0) E rfl wd_1_16 dX11_count_66 ?_
    refine gH_9 (pc := 69) (i := 1) E rfl wd_39_11 dX11_count_69 ?_
    cases hf
    exact z_iret E hr dX11_count_72
  have hf := kB_f hf c4
  by_cases c5 : a1 = 4
  · have hf := kB_t hf c5
    refine z_tswIn (pc := 1) (tgt := 73) (v := 4) (n := 4) (off := 72) E dX11_count_1 c5 (by decide) (by decide) (by decide) (by decide) (by decide) ?_
    refine z_aload_n (pc := 73) (k0 := 0) E dX11_count_73 rfl rfl ?_
    refine gX_0 (pc := 74) (i := 0) E rfl wd_1_16 dX11_count_74 ?_
    refine gH_10 (pc := 77) (i := 1) E rfl wd_42_5 dX11_count_77 ?_
    cases hf
    exact z_iret E hr dX11_count_80
  have hf := kB_f hf c5
  by_cases c6 : a1 = 5
  · have hf := kB_t hf c6
    refine z_tswIn (pc := 1) (tgt := 81) (v := 5) (n := 5) (off := 80) E dX11_count_1 c6 (by decide) (by decide) (by decide) (by decide) (by decide) ?_
    refine z_aload_n (pc := 81) (k0 := 0) E dX11_count_81 rfl rfl ?_
    refine gX_3 (pc := 82) (i := 0) E rfl wd_2_1 dX11_count_82 ?_
    refine gR_5 (pc := 85) (i := 5) E rfl wd_18_1 dX11_count_85 ?_
    cases hf
    exact z_iret E hr dX11_count_88
  have hf := kB_f hf c6
  by_cases c7 : a1 = 6
  · have hf := kB_t hf c7
    refine z_tswIn (pc := 1) (tgt := 89) (v := 6) (n := 6) (off := 88) E dX11_count_1 c7 (by decide) (by decide) (by decide) (by decide) (by decide) ?_
    refine z_aload_n (pc := 89) (k0 := 0) E dX11_count_89 rfl rfl ?_
    refine gX_7 (pc := 90) (i := 0) E rfl wd_2_8 dX11_count_90 ?_
    refine z_bipush (pc := 93) (v := 20) E dX11_count_93 (by decide) ?_
    obtain ⟨c8, hf⟩ := kO_e hf
    refine lA_0 (pc := 95) (i := 7) E rfl c8 dX11_count_95 ?_
    cases hf
    exact z_iret E hr dX11_count_96
  have hf := kB_f hf c7
  refine z_tswOut (pc := 1) (tgt := 97) E dX11_count_1 (by have n_c1 := lv_neT c1 (a := 0) (by decide); have n_c2 := lv_neT c2 (a := 1) (by decide); have n_c3 := lv_neT c3 (a := 2) (by decide); have n_c4 := lv_neT c4 (a := 3) (by decide); have n_c5 := lv_neT c5 (a := 4) (by decide); have n_c6 := lv_neT c6 (a := 5) (by decide); have n_c7 := lv_neT c7 (a := 6) (by decide); omega) (by decide) ?_
  refine z_bipush (pc := 97) (v := (-2)) E dX11_count_97 (by decide) ?_
  cases hf
  exact z_iret E hr dX11_count_99
noncomputable def f_X11_tape_l74 (N : Nat) (SN : zHS) (SK : zHS) (ST : zTS) (SH : zHS) (SR : zRS) (SG : (Nat → Int32)) (SY : (Nat → Int32)) (SZ : (Nat → Int32)) (SD : (List (Nat × zPS))) (SE : (List ((Nat → Nat) × zQS))) : Nat → zRS → ((Nat → Nat → Int64)) → Int32 → Int32 → Option (Int32 × zRS × ((Nat → Nat → Int64))) := fun n => Nat.rec (motive := fun _ => zRS → ((Nat → Nat → Int64)) → Int32 → Int32 → Option (Int32 × zRS × ((Nat → Nat → Int64)))) (fun _ _ _ _ => none) (fun _ ih SX SV x1 x4 => kB (60 ≤ x4) (some (1, SX, SV)) (kO (¬ (x1 < 0 ∨ 6 ≤ Int32.toNatClampNeg x1)) (kO (¬ (x4 < 0 ∨ 60 ≤ Int32.toNatClampNeg x4)) (kL (va_up SV (Int32.toNatClampNeg x1) (vp_updL (SV (Int32.toNatClampNeg x1)) (Int32.toNatClampNeg x4) 0)) (fun SV_19 => kL (x4 + 1) (fun v20 => ih SX SV_19 x1 v20)))))) n
theorem f_X11_tape_l74_z (N : Nat) (SN : zHS) (SK : zHS) (ST : zTS) (SH : zHS) (SR : zRS) (SG : (Nat → Int32)) (SY : (Nat → Int32)) (SZ : (Nat → Int32)) (SD : (List (Nat × zPS))) (SE : (List ((Nat → Nat) × zQS))) (SX : zRS) (SV : (Nat → Nat → Int64)) (x1 : Int32) (x4 : Int32) : f_X11_tape_l74 N SN SK ST SH SR SG SY SZ SD SE 0 SX SV x1 x4 = none := rfl
theorem f_X11_tape_l74_s (N : Nat) (SN : zHS) (SK : zHS) (ST : zTS) (SH : zHS) (SR : zRS) (SG : (Nat → Int32)) (SY : (Nat → Int32)) (SZ : (Nat → Int32)) (SD : (List (Nat × zPS))) (SE : (List ((Nat → Nat) × zQS))) (n : Nat) (SX : zRS) (SV : (Nat → Nat → Int64)) (x1 : Int32) (x4 : Int32) : f_X11_tape_l74 N SN SK ST SH SR SG SY SZ SD SE (n + 1) SX SV x1 x4 = kB (60 ≤ x4) (some (1, SX, SV)) (kO (¬ (x1 < 0 ∨ 6 ≤ Int32.toNatClampNeg x1)) (kO (¬ (x4 < 0 ∨ 60 ≤ Int32.toNatClampNeg x4)) (kL (va_up SV (Int32.toNatClampNeg x1) (vp_updL (SV (Int32.toNatClampNeg x1)) (Int32.toNatClampNeg x4) 0)) (fun SV_19 => kL (x4 + 1) (fun v20 => (f_X11_tape_l74 N SN SK ST SH SR SG SY SZ SD SE n) SX SV_19 x1 v20))))) := rfl
noncomputable def f_X11_tape_b49 (N : Nat) (SN : zHS) (SK : zHS) (ST : zTS) (SH : zHS) (SR : zRS) (SG : (Nat → Int32)) (SY : (Nat → Int32)) (SZ : (Nat → Int32)) (SD : (List (Nat × zPS))) (SE : (List ((Nat → Nat) × zQS))) (SX : zRS) (SV : (Nat → Nat → Int64)) (x1 : Int32) (x2 : Int32) (x3 : Int32) : Option (Int32 × zRS × ((Nat → Nat → Int64))) := kO (¬ (x1 < 0 ∨ 6 ≤ Int32.toNatClampNeg x1)) (kL (rSA SX 5 (upd (SX.2 5) (Int32.toNatClampNeg x1) x2)) (fun SX_10 => kB (0 ≤ x2) (kO (¬ (x1 < 0 ∨ 6 ≤ Int32.toNatClampNeg x1)) (kL (rSA SX_10 6 (upd (SX_10.2 6) (Int32.toNatClampNeg x1) x3)) (fun SX_13 => f_X11_tape_l74 N SN SK ST SH SR SG SY SZ SD SE N SX_13 SV x1 0))) (kO (¬ (x1 < 0 ∨ 6 ≤ Int32.toNatClampNeg x1)) (kL (rSA SX_10 6 (upd (SX_10.2 6) (Int32.toNatClampNeg x1) 0)) (fun SX_15 => f_X11_tape_l74 N SN SK ST SH SR SG SY SZ SD SE N SX_15 SV x1 0)))))
noncomputable def f_X11_tape_b38 (N : Nat) (SN : zHS) (SK : zHS) (ST : zTS) (SH : zHS) (SR : zRS) (SG : (Nat → Int32)) (SY : (Nat → Int32)) (SZ : (Nat → Int32)) (SD : (List (Nat × zPS))) (SE : (List ((Nat → Nat) × zQS))) (SX : zRS) (SV : (Nat → Nat → Int64)) (x1 : Int32) (x2 : Int32) (x3 : Int32) : Option (Int32 × zRS × ((Nat → Nat → Int64))) := kB (x2 < 0) (f_X11_tape_b49 N SN SK ST SH SR SG SY SZ SD SE SX SV x1 x2 x3) (kB (0 ≤ x3) (f_X11_tape_b49 N SN SK ST SH SR SG SY SZ SD SE SX SV x1 x2 x3) (some ((-14), SX, SV)))
noncomputable def f_X11_tape (N : Nat) (SX : zRS) (SN : zHS) (SK : zHS) (ST : zTS) (SH : zHS) (SR : zRS) (SV : (Nat → Nat → Int64)) (SG : (Nat → Int32)) (SY : (Nat → Int32)) (SZ : (Nat → Int32)) (SD : (List (Nat × zPS))) (SE : (List ((Nat → Nat) × zQS))) (a1 : Int32) (a2 : Int32) (a3 : Int32) : Option (Int32 × zRS × ((Nat → Nat → Int64))) := kB (a1 < 0) (some ((-1), SX, SV)) (kB (a1 < 6) (kB (a2 < (-1)) (some ((-2), SX, SV)) (kB (a2 < 5) (kB (a2 < 0) (f_X11_tape_b38 N SN SK ST SH SR SG SY SZ SD SE SX SV a1 a2 a3) (kB (a3 ≤ 60) (f_X11_tape_b38 N SN SK ST SH SR SG SY SZ SD SE SX SV a1 a2 a3) (some ((-2), SX, SV)))) (some ((-2), SX, SV)))) (some ((-1), SX, SV)))
theorem wv_X11_tape : zWV RX11 yX11_tape cX11_tape 5 (some .int) 3 := ⟨wd_51_9, wd_51_10, wd_1_2, wd_51_11, by decide +kernel⟩
def rm_X11_tape : Room := { frames := 0, cells := 0, slots := 0, locals := 0 }
set_option maxHeartbeats 4000000 in
set_option maxRecDepth 100000 in
theorem c_X11_tape {l : Launch} {G : va_G} {ct : Nat → ClassId} {aX : Nat → Nat} {aN : Nat → Nat} {aK : Nat → Nat} {aT : Nat → Nat} {aH : Nat → Nat} {aR : Nat → Nat} {aV : Nat → Nat} {gG : Nat} {gY : Nat} {gZ : Nat} {N : Nat} {SX : zRS} {SN : zHS} {SK : zHS} {ST : zTS} {SH : zHS} {SR : zRS} {SV : (Nat → Nat → Int64)} {SG : (Nat → Int32)} {SY : (Nat → Int32)} {SZ : (Nat → Int32)} {SD : (List (Nat × zPS))} {SE : (List ((Nat → Nat) × zQS))} {a1 : Int32} {a2 : Int32} {a3 : Int32} {r0 : Int32} {OX : zRS} {OV : (Nat → Nat → Int64)} (hf : f_X11_tape N SX SN SK ST SH SR SV SG SY SZ SD SE a1 a2 a3 = some (r0, OX, OV)) : zC l yX11_tape cX11_tape 5 (some .int) rm_X11_tape G ct [.ref (aX 200), .int a1, .int a2, .int a3] [wX aX (aN 200) (aK 200) (aT 200) (aR 200) (aV 6) gG gY gZ ct SX, wH aN ct SN, wH aK ct SK, wT aT (aH 200) ct ST, wH aH ct SH, wR aR ct SR, wV aV ct SV, wA gG 21 ct SG, wA gY 5 ct SY, wA gZ 5 ct SZ, wDp gG SD, wDh ct SE] [wX aX (aN 200) (aK 200) (aT 200) (aR 200) (aV 6) gG gY gZ ct OX, wH aN ct SN, wH aK ct SK, wT aT (aH 200) ct ST, wH aH ct SH, wR aR ct SR, wV aV ct OV, wA gG 21 ct SG, wA gY 5 ct SY, wA gZ 5 ct SZ, wDp gG SD, wDh ct SE] (some (.int r0)) 0 0 := by
  refine z_enter (own := RX11) (lv := [(0, .ref (aX 200)), (1, .int a1), (2, .int a2), (3, .int a3)]) (by decide) rfl (Nat.le_of_ble_eq_true rfl) rfl ?_
  intro p e s m args below meth c A E hr hnm
  have L74 : ∀ (n74 : Nat) (SX : zRS) (SV : (Nat → Nat → Int64)) (x1 : Int32) (x4 : Int32), f_X11_tape_l74 N SN SK ST SH SR SG SY SZ SD SE n74 SX SV x1 x4 = some (r0, OX, OV) → zJ p l e rm_X11_tape s m args below meth c (zQ G ct (some (.int r0)) [wX aX (aN 200) (aK 200) (aT 200) (aR 200) (aV 6) gG gY gZ ct OX, wH aN ct SN, wH aK ct SK, wT aT (aH 200) ct ST, wH aH ct SH, wR aR ct SR, wV aV ct OV, wA gG 21 ct SG, wA gY 5 ct SY, wA gZ 5 ct SZ, wDp gG SD, wDh ct SE] A below args s 0 0) A G 5 0 0 [wX aX (aN 200) (aK 200) (aT 200) (aR 200) (aV 6) gG gY gZ ct SX, wH aN ct SN, wH aK ct SK, wT aT (aH 200) ct ST, wH aH ct SH, wR aR ct SR, wV aV ct SV, wA gG 21 ct SG, wA gY 5 ct SY, wA gZ 5 ct SZ, wDp gG SD, wDh ct SE] [(0, .ref (aX 200)), (1, .int x1), (4, .int x4)] 74 [] := by
    intro n74
    induction n74 with
    | zero =>
      intro SX SV x1 x4 hf
      rw [f_X11_tape_l74_z] at hf
      cases hf
    | succ n74 ih74 =>
      intro SX SV x1 x4 hf
      rw [f_X11_tape_l74_s] at hf
      refine z_iload (pc := 74) (k0 := 2) E dX11_tape_74 rfl ?_
      refine z_bipush (pc := 76) (v := 60) E dX11_tape_76 (by decide) ?_
      refine z_icmp_ge (pc := 78) (tgt := 97) E dX11_tape_78 (by decide) (fun c16 => ?_) (fun c16 => ?_)
      · have hf := kB_t hf c16
        refine z_iconst (pc := 97) (v := 1) E dX11_tape_97 (by decide) ?_
        cases hf
        exact z_iret E hr dX11_tape_98
      · have hf := kB_f hf c16
        refine z_aload_n (pc := 81) (k0 := 0) E dX11_tape_81 rfl rfl ?_
        refine gX_4 (pc := 82) (i := 0) E rfl wd_2_4 dX11_tape_82 ?_
        refine z_iload_n (pc := 85) (k0 := 1) E dX11_tape_85 rfl rfl ?_
        obtain ⟨c17, hf⟩ := kO_e hf
        refine vzA (pc := 86) (i := 6) E rfl c17 dX11_tape_86 ?_
        refine z_iload (pc := 87) (k0 := 2) E dX11_tape_87 rfl ?_
        refine z_lconst (pc := 89) (v := 0) E dX11_tape_89 (by decide) ?_
        obtain ⟨c18, hf⟩ := kO_e hf
        obtain ⟨SV_19, e_SV_19, hf⟩ := kL_e hf
        refine vzS (pc := 90) (i := 6) (S1 := SV_19) E rfl (Nat.lt_of_not_le fun q => c17 (Or.inr q)) c18 e_SV_19 dX11_tape_90 ?_
        show zJ p l e rm_X11_tape s m args below meth c (zQ G ct (some (.int r0)) [wX aX (aN 200) (aK 200) (aT 200) (aR 200) (aV 6) gG gY gZ ct OX, wH aN ct SN, wH aK ct SK, wT aT (aH 200) ct ST, wH aH ct SH, wR aR ct SR, wV aV ct OV, wA gG 21 ct SG, wA gY 5 ct SY, wA gZ 5 ct SZ, wDp gG SD, wDh ct SE] A below args s 0 0) A G 5 0 0 [wX aX (aN 200) (aK 200) (aT 200) (aR 200) (aV 6) gG gY gZ ct SX, wH aN ct SN, wH aK ct SK, wT aT (aH 200) ct ST, wH aH ct SH, wR aR ct SR, wV aV ct SV_19, wA gG 21 ct SG, wA gY 5 ct SY, wA gZ 5 ct SZ, wDp gG SD, wDh ct SE] [(0, .ref (aX 200)), (1, .int x1), (4, .int x4)] 91 []
        obtain ⟨v20, e_v20, hf⟩ := kL_e hf
        refine z_iinc (pc := 91) (k0 := 2) (v := v20) (lv' := [(4, .int v20), (0, .ref (aX 200)), (1, .int x1)]) E dX11_tape_91 rfl e_v20 (by decide) rfl ?_
        refine z_goto (pc := 94) (tgt := 74) E dX11_tape_94 (by decide) ?_
        refine z_sub [1, 2, 0] (lv' := [(0, .ref (aX 200)), (1, .int x1), (4, .int v20)]) rfl ?_
        exact ih74 SX SV_19 x1 v20 hf
  have B49 : ∀ (SX : zRS) (SV : (Nat → Nat → Int64)) (x1 : Int32) (x2 : Int32) (x3 : Int32), f_X11_tape_b49 N SN SK ST SH SR SG SY SZ SD SE SX SV x1 x2 x3 = some (r0, OX, OV) → zJ p l e rm_X11_tape s m args below meth c (zQ G ct (some (.int r0)) [wX aX (aN 200) (aK 200) (aT 200) (aR 200) (aV 6) gG gY gZ ct OX, wH aN ct SN, wH aK ct SK, wT aT (aH 200) ct ST, wH aH ct SH, wR aR ct SR, wV aV ct OV, wA gG 21 ct SG, wA gY 5 ct SY, wA gZ 5 ct SZ, wDp gG SD, wDh ct SE] A below args s 0 0) A G 5 0 0 [wX aX (aN 200) (aK 200) (aT 200) (aR 200) (aV 6) gG gY gZ ct SX, wH aN ct SN, wH aK ct SK, wT aT (aH 200) ct ST, wH aH ct SH, wR aR ct SR, wV aV ct SV, wA gG 21 ct SG, wA gY 5 ct SY, wA gZ 5 ct SZ, wDp gG SD, wDh ct SE] [(0, .ref (aX 200)), (1, .int x1), (2, .int x2), (3, .int x3)] 49 [] := by
    intro SX SV x1 x2 x3 hf
    unfold f_X11_tape_b49 at hf
    refine z_aload_n (pc := 49) (k0 := 0) E dX11_tape_49 rfl rfl ?_
    refine gX_5 (pc := 50) (i := 0) E rfl wd_2_6 dX11_tape_50 ?_
    refine z_iload_n (pc := 53) (k0 := 1) E dX11_tape_53 rfl rfl ?_
    refine z_iload_n (pc := 54) (k0 := 2) E dX11_tape_54 rfl rfl ?_
    obtain ⟨c9, hf⟩ := kO_e hf
    obtain ⟨SX_10, e_SX_10, hf⟩ := kL_e hf
    refine sX_5 (pc := 55) (i := 0) (S1 := SX_10) E rfl c9 e_SX_10 dX11_tape_55 ?_
    show zJ p l e rm_X11_tape s m args below meth c (zQ G ct (some (.int r0)) [wX aX (aN 200) (aK 200) (aT 200) (aR 200) (aV 6) gG gY gZ ct OX, wH aN ct SN, wH aK ct SK, wT aT (aH 200) ct ST, wH aH ct SH, wR aR ct SR, wV aV ct OV, wA gG 21 ct SG, wA gY 5 ct SY, wA gZ 5 ct SZ, wDp gG SD, wDh ct SE] A below args s 0 0) A G 5 0 0 [wX aX (aN 200) (aK 200) (aT 200) (aR 200) (aV 6) gG gY gZ ct SX_10, wH aN ct SN, wH aK ct SK, wT aT (aH 200) ct ST, wH aH ct SH, wR aR ct SR, wV aV ct SV, wA gG 21 ct SG, wA gY 5 ct SY, wA gZ 5 ct SZ, wDp gG SD, wDh ct SE] [(0, .ref (aX 200)), (1, .int x1), (2, .int x2), (3, .int x3)] 56 []
    refine z_aload_n (pc := 56) (k0 := 0) E dX11_tape_56 rfl rfl ?_
    refine gX_6 (pc := 57) (i := 0) E rfl wd_2_7 dX11_tape_57 ?_
    refine z_iload_n (pc := 60) (k0 := 1) E dX11_tape_60 rfl rfl ?_
    refine z_iload_n (pc := 61) (k0 := 2) E dX11_tape_61 rfl rfl ?_
    refine z_if_ge (pc := 62) (tgt := 69) E dX11_tape_62 (by decide) (fun c11 => ?_) (fun c11 => ?_)
    · have hf := kB_t hf c11
      refine z_iload_n (pc := 69) (k0 := 3) E dX11_tape_69 rfl rfl ?_
      obtain ⟨c12, hf⟩ := kO_e hf
      obtain ⟨SX_13, e_SX_13, hf⟩ := kL_e hf
      refine sX_6 (pc := 70) (i := 0) (S1 := SX_13) E rfl c12 e_SX_13 dX11_tape_70 ?_
      show zJ p l e rm_X11_tape s m args below meth c (zQ G ct (some (.int r0)) [wX aX (aN 200) (aK 200) (aT 200) (aR 200) (aV 6) gG gY gZ ct OX, wH aN ct SN, wH aK ct SK, wT aT (aH 200) ct ST, wH aH ct SH, wR aR ct SR, wV aV ct OV, wA gG 21 ct SG, wA gY 5 ct SY, wA gZ 5 ct SZ, wDp gG SD, wDh ct SE] A below args s 0 0) A G 5 0 0 [wX aX (aN 200) (aK 200) (aT 200) (aR 200) (aV 6) gG gY gZ ct SX_13, wH aN ct SN, wH aK ct SK, wT aT (aH 200) ct ST, wH aH ct SH, wR aR ct SR, wV aV ct SV, wA gG 21 ct SG, wA gY 5 ct SY, wA gZ 5 ct SZ, wDp gG SD, wDh ct SE] [(0, .ref (aX 200)), (1, .int x1), (2, .int x2), (3, .int x3)] 71 []
      refine z_iconst (pc := 71) (v := 0) E dX11_tape_71 (by decide) ?_
      refine z_istore (pc := 72) (lv' := [(4, .int 0), (0, .ref (aX 200)), (1, .int x1), (2, .int x2), (3, .int x3)]) E dX11_tape_72 (by decide) rfl ?_
      refine z_sub [1, 2, 0] (lv' := [(0, .ref (aX 200)), (1, .int x1), (4, .int 0)]) rfl ?_
      exact L74 N SX_13 SV x1 0 hf
    · have hf := kB_f hf c11
      refine z_iconst (pc := 65) (v := 0) E dX11_tape_65 (by decide) ?_
      refine z_goto (pc := 66) (tgt := 70) E dX11_tape_66 (by decide) ?_
      obtain ⟨c14, hf⟩ := kO_e hf
      obtain ⟨SX_15, e_SX_15, hf⟩ := kL_e hf
      refine sX_6 (pc := 70) (i := 0) (S1 := SX_15) E rfl c14 e_SX_15 dX11_tape_70 ?_
      show zJ p l e rm_X11_tape s m args below meth c (zQ G ct (some (.int r0)) [wX aX (aN 200) (aK 200) (aT 200) (aR 200) (aV 6) gG gY gZ ct OX, wH aN ct SN, wH aK ct SK, wT aT (aH 200) ct ST, wH aH ct SH, wR aR ct SR, wV aV ct OV, wA gG 21 ct SG, wA gY 5 ct SY, wA gZ 5 ct SZ, wDp gG SD, wDh ct SE] A below args s 0 0) A G 5 0 0 [wX aX (aN 200) (aK 200) (aT 200) (aR 200) (aV 6) gG gY gZ ct SX_15, wH aN ct SN, wH aK ct SK, wT aT (aH 200) ct ST, wH aH ct SH, wR aR ct SR, wV aV ct SV, wA gG 21 ct SG, wA gY 5 ct SY, wA gZ 5 ct SZ, wDp gG SD, wDh ct SE] [(0, .ref (aX 200)), (1, .int x1), (2, .int x2), (3, .int x3)] 71 []
      refine z_iconst (pc := 71) (v := 0) E dX11_tape_71 (by decide) ?_
      refine z_istore (pc := 72) (lv' := [(4, .int 0), (0, .ref (aX 200)), (1, .int x1), (2, .int x2), (3, .int x3)]) E dX11_tape_72 (by decide) rfl ?_
      refine z_sub [1, 2, 0] (lv' := [(0, .ref (aX 200)), (1, .int x1), (4, .int 0)]) rfl ?_
      exact L74 N SX_15 SV x1 0 hf
  have B38 : ∀ (SX : zRS) (SV : (Nat → Nat → Int64)) (x1 : Int32) (x2 : Int32) (x3 : Int32), f_X11_tape_b38 N SN SK ST SH SR SG SY SZ SD SE SX SV x1 x2 x3 = some (r0, OX, OV) → zJ p l e rm_X11_tape s m args below meth c (zQ G ct (some (.int r0)) [wX aX (aN 200) (aK 200) (aT 200) (aR 200) (aV 6) gG gY gZ ct OX, wH aN ct SN, wH aK ct SK, wT aT (aH 200) ct ST, wH aH ct SH, wR aR ct SR, wV aV ct OV, wA gG 21 ct SG, wA gY 5 ct SY, wA gZ 5 ct SZ, wDp gG SD, wDh ct SE] A below args s 0 0) A G 5 0 0 [wX aX (aN 200) (aK 200) (aT 200) (aR 200) (aV 6) gG gY gZ ct SX, wH aN ct SN, wH aK ct SK, wT aT (aH 200) ct ST, wH aH ct SH, wR aR ct SR, wV aV ct SV, wA gG 21 ct SG, wA gY 5 ct SY, wA gZ 5 ct SZ, wDp gG SD, wDh ct SE] [(0, .ref (aX 200)), (1, .int x1), (2, .int x2), (3, .int x3)] 38 [] := by
    intro SX SV x1 x2 x3 hf
    unfold f_X11_tape_b38 at hf
    refine z_iload_n (pc := 38) (k0 := 2) E dX11_tape_38 rfl rfl ?_
    refine z_if_lt (pc := 39) (tgt := 49) E dX11_tape_39 (by decide) (fun c7 => ?_) (fun c7 => ?_)
    · have hf := kB_t hf c7
      exact B49 SX SV x1 x2 x3 hf
    · have hf := kB_f hf c7
      refine z_iload_n (pc := 42) (k0 := 3) E dX11_tape_42 rfl rfl ?_
      refine z_if_ge (pc := 43) (tgt := 49) E dX11_tape_43 (by decide) (fun c8 => ?_) (fun c8 => ?_)
      · have hf := kB_t hf c8
        exact B49 SX SV x1 x2 x3 hf
      · have hf := kB_f hf c8
        refine z_bipush (pc := 46) (v := (-14)) E dX11_tape_46 (by decide) ?_
        cases hf
        exact z_iret E hr dX11_tape_48
  unfold f_X11_tape at hf
  refine z_iload_n (pc := 0) (k0 := 1) E dX11_tape_0 rfl rfl ?_
  refine z_if_lt (pc := 1) (tgt := 10) E dX11_tape_1 (by decide) (fun c1 => ?_) (fun c1 => ?_)
  · have hf := kB_t hf c1
    refine z_iconst (pc := 10) (v := (-1)) E dX11_tape_10 (by decide) ?_
    cases hf
    exact z_iret E hr dX11_tape_11
  · have hf := kB_f hf c1
    refine z_iload_n (pc := 4) (k0 := 1) E dX11_tape_4 rfl rfl ?_
    refine z_bipush (pc := 5) (v := 6) E dX11_tape_5 (by decide) ?_
    refine z_icmp_lt (pc := 7) (tgt := 12) E dX11_tape_7 (by decide) (fun c2 => ?_) (fun c2 => ?_)
    · have hf := kB_t hf c2
      refine z_iload_n (pc := 12) (k0 := 2) E dX11_tape_12 rfl rfl ?_
      refine z_iconst (pc := 13) (v := (-1)) E dX11_tape_13 (by decide) ?_
      refine z_icmp_lt (pc := 14) (tgt := 22) E dX11_tape_14 (by decide) (fun c3 => ?_) (fun c3 => ?_)
      · have hf := kB_t hf c3
        refine z_bipush (pc := 22) (v := (-2)) E dX11_tape_22 (by decide) ?_
        cases hf
        exact z_iret E hr dX11_tape_24
      · have hf := kB_f hf c3
        refine z_iload_n (pc := 17) (k0 := 2) E dX11_tape_17 rfl rfl ?_
        refine z_iconst (pc := 18) (v := 5) E dX11_tape_18 (by decide) ?_
        refine z_icmp_lt (pc := 19) (tgt := 25) E dX11_tape_19 (by decide) (fun c4 => ?_) (fun c4 => ?_)
        · have hf := kB_t hf c4
          refine z_iload_n (pc := 25) (k0 := 2) E dX11_tape_25 rfl rfl ?_
          refine z_if_lt (pc := 26) (tgt := 38) E dX11_tape_26 (by decide) (fun c5 => ?_) (fun c5 => ?_)
          · have hf := kB_t hf c5
            exact B38 SX SV a1 a2 a3 hf
          · have hf := kB_f hf c5
            refine z_iload_n (pc := 29) (k0 := 3) E dX11_tape_29 rfl rfl ?_
            refine z_bipush (pc := 30) (v := 60) E dX11_tape_30 (by decide) ?_
            refine z_icmp_le (pc := 32) (tgt := 38) E dX11_tape_32 (by decide) (fun c6 => ?_) (fun c6 => ?_)
            · have hf := kB_t hf c6
              exact B38 SX SV a1 a2 a3 hf
            · have hf := kB_f hf c6
              refine z_bipush (pc := 35) (v := (-2)) E dX11_tape_35 (by decide) ?_
              cases hf
              exact z_iret E hr dX11_tape_37
        · have hf := kB_f hf c4
          refine z_bipush (pc := 22) (v := (-2)) E dX11_tape_22 (by decide) ?_
          cases hf
          exact z_iret E hr dX11_tape_24
    · have hf := kB_f hf c2
      refine z_iconst (pc := 10) (v := (-1)) E dX11_tape_10 (by decide) ?_
      cases hf
      exact z_iret E hr dX11_tape_11
noncomputable def f_X11_cut (a1 : Int32) (a2 : Int64) : Option Int64 := kB (a1 = 0) (kL (a2.toInt32) (fun v2 => kL (v2.toInt8.toInt32) (fun v3 => kL (v3.toInt64) (fun v4 => some (v4))))) (kB (a1 = 1) (kL (a2.toInt32) (fun v6 => kL (v6.toInt16.toInt32) (fun v7 => kL (v7.toInt64) (fun v8 => some (v8))))) (kB (a1 = 2) (kL (a2.toInt32) (fun v10 => kL (v10.toInt64) (fun v11 => some (v11)))) (kB (a1 = 3) (some (a2)) (kL (lg_cmp a2 0) (fun v13 => kB (v13 = 0) (some (0)) (some (1)))))))
theorem wv_X11_cut : zWS RX11 yX11_cut cX11_cut 3 (some .long) 2 := ⟨wd_51_21, wd_1_2, wd_51_22, by decide +kernel⟩
def rm_X11_cut : Room := { frames := 0, cells := 0, slots := 0, locals := 0 }
set_option maxHeartbeats 4000000 in
set_option maxRecDepth 100000 in
theorem c_X11_cut {l : Launch} {G : va_G} {ct : Nat → ClassId} {a1 : Int32} {a2 : Int64} {r0 : Int64} (hf : f_X11_cut a1 a2 = some r0) : zC l yX11_cut cX11_cut 3 (some .long) rm_X11_cut G ct [.int a1, .long a2] [] [] (some (.long r0)) 0 0 := by
  refine z_enter (own := RX11) (lv := [(0, .int a1), (1, .long a2)]) (by decide) rfl (Nat.le_of_ble_eq_true rfl) rfl ?_
  intro p e s m args below meth c A E hr hnm
  unfold f_X11_cut at hf
  refine z_iload_n (pc := 0) (k0 := 0) E dX11_cut_0 rfl rfl ?_
  by_cases c1 : a1 = 0
  · have hf := kB_t hf c1
    refine z_tswIn (pc := 1) (tgt := 32) (v := 0) (n := 0) (off := 31) E dX11_cut_1 c1 (by decide) (by decide) (by decide) (by decide) (by decide) ?_
    refine z_lload_n (pc := 32) (k0 := 1) E dX11_cut_32 rfl rfl ?_
    obtain ⟨v2, e_v2, hf⟩ := kL_e hf
    refine z_l2i (pc := 33) (v := v2) E dX11_cut_33 e_v2 ?_
    obtain ⟨v3, e_v3, hf⟩ := kL_e hf
    refine z_i2b (pc := 34) (v := v3) E dX11_cut_34 e_v3 ?_
    obtain ⟨v4, e_v4, hf⟩ := kL_e hf
    refine z_i2l (pc := 35) (v := v4) E dX11_cut_35 e_v4 ?_
    cases hf
    exact z_lret E hr dX11_cut_36
  have hf := kB_f hf c1
  by_cases c5 : a1 = 1
  · have hf := kB_t hf c5
    refine z_tswIn (pc := 1) (tgt := 37) (v := 1) (n := 1) (off := 36) E dX11_cut_1 c5 (by decide) (by decide) (by decide) (by decide) (by decide) ?_
    refine z_lload_n (pc := 37) (k0 := 1) E dX11_cut_37 rfl rfl ?_
    obtain ⟨v6, e_v6, hf⟩ := kL_e hf
    refine z_l2i (pc := 38) (v := v6) E dX11_cut_38 e_v6 ?_
    obtain ⟨v7, e_v7, hf⟩ := kL_e hf
    refine z_i2s (pc := 39) (v := v7) E dX11_cut_39 e_v7 ?_
    obtain ⟨v8, e_v8, hf⟩ := kL_e hf
    refine z_i2l (pc := 40) (v := v8) E dX11_cut_40 e_v8 ?_
    cases hf
    exact z_lret E hr dX11_cut_41
  have hf := kB_f hf c5
  by_cases c9 : a1 = 2
  · have hf := kB_t hf c9
    refine z_tswIn (pc := 1) (tgt := 42) (v := 2) (n := 2) (off := 41) E dX11_cut_1 c9 (by decide) (by decide) (by decide) (by decide) (by decide) ?_
    refine z_lload_n (pc := 42) (k0 := 1) E dX11_cut_42 rfl rfl ?_
    obtain ⟨v10, e_v10, hf⟩ := kL_e hf
    refine z_l2i (pc := 43) (v := v10) E dX11_cut_43 e_v10 ?_
    obtain ⟨v11, e_v11, hf⟩ := kL_e hf
    refine z_i2l (pc := 44) (v := v11) E dX11_cut_44 e_v11 ?_
    cases hf
    exact z_lret E hr dX11_cut_45
  have hf := kB_f hf c9
  by_cases c12 : a1 = 3
  · have hf := kB_t hf c12
    refine z_tswIn (pc := 1) (tgt := 46) (v := 3) (n := 3) (off := 45) E dX11_cut_1 c12 (by decide) (by decide) (by decide) (by decide) (by decide) ?_
    refine z_lload_n (pc := 46) (k0 := 1) E dX11_cut_46 rfl rfl ?_
    cases hf
    exact z_lret E hr dX11_cut_47
  have hf := kB_f hf c12
  refine z_tswOut (pc := 1) (tgt := 48) E dX11_cut_1 (by have n_c1 := lv_neT c1 (a := 0) (by decide); have n_c5 := lv_neT c5 (a := 1) (by decide); have n_c9 := lv_neT c9 (a := 2) (by decide); have n_c12 := lv_neT c12 (a := 3) (by decide); omega) (by decide) ?_
  refine z_lload_n (pc := 48) (k0 := 1) E dX11_cut_48 rfl rfl ?_
  refine z_lconst (pc := 49) (v := 0) E dX11_cut_49 (by decide) ?_
  obtain ⟨v13, e_v13, hf⟩ := kL_e hf
  refine z_lcmp (pc := 50) (v := v13) E dX11_cut_50 e_v13 ?_
  refine z_if_eq (pc := 51) (tgt := 58) E dX11_cut_51 (by decide) (fun c14 => ?_) (fun c14 => ?_)
  · have hf := kB_t hf c14
    refine z_lconst (pc := 58) (v := 0) E dX11_cut_58 (by decide) ?_
    cases hf
    exact z_lret E hr dX11_cut_59
  · have hf := kB_f hf c14
    refine z_lconst (pc := 54) (v := 1) E dX11_cut_54 (by decide) ?_
    refine z_goto (pc := 55) (tgt := 59) E dX11_cut_55 (by decide) ?_
    cases hf
    exact z_lret E hr dX11_cut_59
noncomputable def f_X11_item (SX : zRS) (SN : zHS) (SK : zHS) (ST : zTS) (SH : zHS) (SR : zRS) (SV : (Nat → Nat → Int64)) (SG : (Nat → Int32)) (SY : (Nat → Int32)) (SZ : (Nat → Int32)) (SD : (List (Nat × zPS))) (SE : (List ((Nat → Nat) × zQS))) (a1 : Int32) (a2 : Int32) (a3 : Int64) : Option (Int32 × ((Nat → Nat → Int64))) := kB (a1 < 0) (some ((-1), SV)) (kB (a1 < 6) (kO (¬ (a1 < 0 ∨ 6 ≤ Int32.toNatClampNeg a1)) (kB (0 ≤ ((SX.2 5) (Int32.toNatClampNeg a1))) (kL (a2.toInt64) (fun v5 => kC (f_X11_holds SX SN SK ST SH SR SV SG SY SZ SD SE a1 v5) (fun r6 => kB (r6 = 0) (some ((-13), SV)) (kO (¬ (a1 < 0 ∨ 6 ≤ Int32.toNatClampNeg a1)) (kO (¬ (a1 < 0 ∨ 6 ≤ Int32.toNatClampNeg a1)) (kC (f_X11_cut ((SX.2 5) (Int32.toNatClampNeg a1)) a3) (fun r11 => kO (¬ (a2 < 0 ∨ 60 ≤ Int32.toNatClampNeg a2)) (kL (va_up SV (Int32.toNatClampNeg a1) (vp_updL (SV (Int32.toNatClampNeg a1)) (Int32.toNatClampNeg a2) r11)) (fun SV_14 => some (1, SV_14)))))))))) (some ((-11), SV)))) (some ((-1), SV)))
theorem wv_X11_item : zWV RX11 yX11_item cX11_item 5 (some .int) 3 := ⟨wd_51_17, wd_51_18, wd_1_2, wd_51_19, by decide +kernel⟩
def rm_X11_item : Room := { frames := 1, cells := 0, slots := 0, locals := 23 }
set_option maxHeartbeats 4000000 in
set_option maxRecDepth 100000 in
theorem c_X11_item {l : Launch} {G : va_G} {ct : Nat → ClassId} {aX : Nat → Nat} {aN : Nat → Nat} {aK : Nat → Nat} {aT : Nat → Nat} {aH : Nat → Nat} {aR : Nat → Nat} {aV : Nat → Nat} {gG : Nat} {gY : Nat} {gZ : Nat} {SX : zRS} {SN : zHS} {SK : zHS} {ST : zTS} {SH : zHS} {SR : zRS} {SV : (Nat → Nat → Int64)} {SG : (Nat → Int32)} {SY : (Nat → Int32)} {SZ : (Nat → Int32)} {SD : (List (Nat × zPS))} {SE : (List ((Nat → Nat) × zQS))} {a1 : Int32} {a2 : Int32} {a3 : Int64} {r0 : Int32} {OV : (Nat → Nat → Int64)} (hf : f_X11_item SX SN SK ST SH SR SV SG SY SZ SD SE a1 a2 a3 = some (r0, OV)) : zC l yX11_item cX11_item 5 (some .int) rm_X11_item G ct [.ref (aX 200), .int a1, .int a2, .long a3] [wX aX (aN 200) (aK 200) (aT 200) (aR 200) (aV 6) gG gY gZ ct SX, wH aN ct SN, wH aK ct SK, wT aT (aH 200) ct ST, wH aH ct SH, wR aR ct SR, wV aV ct SV, wA gG 21 ct SG, wA gY 5 ct SY, wA gZ 5 ct SZ, wDp gG SD, wDh ct SE] [wX aX (aN 200) (aK 200) (aT 200) (aR 200) (aV 6) gG gY gZ ct SX, wH aN ct SN, wH aK ct SK, wT aT (aH 200) ct ST, wH aH ct SH, wR aR ct SR, wV aV ct OV, wA gG 21 ct SG, wA gY 5 ct SY, wA gZ 5 ct SZ, wDp gG SD, wDh ct SE] (some (.int r0)) 0 0 := by
  refine z_enter (own := RX11) (lv := [(0, .ref (aX 200)), (1, .int a1), (2, .int a2), (3, .long a3)]) (by decide) rfl (Nat.le_of_ble_eq_true rfl) rfl ?_
  intro p e s m args below meth c A E hr hnm
  unfold f_X11_item at hf
  refine z_iload_n (pc := 0) (k0 := 1) E dX11_item_0 rfl rfl ?_
  refine z_if_lt (pc := 1) (tgt := 10) E dX11_item_1 (by decide) (fun c1 => ?_) (fun c1 => ?_)
  · have hf := kB_t hf c1
    refine z_iconst (pc := 10) (v := (-1)) E dX11_item_10 (by decide) ?_
    cases hf
    exact z_iret E hr dX11_item_11
  · have hf := kB_f hf c1
    refine z_iload_n (pc := 4) (k0 := 1) E dX11_item_4 rfl rfl ?_
    refine z_bipush (pc := 5) (v := 6) E dX11_item_5 (by decide) ?_
    refine z_icmp_lt (pc := 7) (tgt := 12) E dX11_item_7 (by decide) (fun c2 => ?_) (fun c2 => ?_)
    · have hf := kB_t hf c2
      refine z_aload_n (pc := 12) (k0 := 0) E dX11_item_12 rfl rfl ?_
      refine gX_5 (pc := 13) (i := 0) E rfl wd_2_6 dX11_item_13 ?_
      refine z_iload_n (pc := 16) (k0 := 1) E dX11_item_16 rfl rfl ?_
      obtain ⟨c3, hf⟩ := kO_e hf
      refine lX_5 (pc := 17) (i := 0) E rfl c3 dX11_item_17 ?_
      refine z_if_ge (pc := 18) (tgt := 24) E dX11_item_18 (by decide) (fun c4 => ?_) (fun c4 => ?_)
      · have hf := kB_t hf c4
        refine z_aload_n (pc := 24) (k0 := 0) E dX11_item_24 rfl rfl ?_
        refine z_iload_n (pc := 25) (k0 := 1) E dX11_item_25 rfl rfl ?_
        refine z_iload_n (pc := 26) (k0 := 2) E dX11_item_26 rfl rfl ?_
        obtain ⟨v5, e_v5, hf⟩ := kL_e hf
        refine z_i2l (pc := 27) (v := v5) E dX11_item_27 e_v5 ?_
        obtain ⟨r6, h7, hf⟩ := kC_e hf
        refine z_callV0 (pc := 28) (is := [0, 1, 2, 3, 4, 5, 6, 7, 8, 9, 10, 11]) (n := 2) (As := [.int a1, .long v5]) (st := []) (st' := [.int r6]) (C2 := [wX aX (aN 200) (aK 200) (aT 200) (aR 200) (aV 6) gG gY gZ ct SX, wH aN ct SN, wH aK ct SK, wT aT (aH 200) ct ST, wH aH ct SH, wR aR ct SR, wV aV ct SV, wA gG 21 ct SG, wA gY 5 ct SY, wA gZ 5 ct SZ, wDp gG SD, wDh ct SE]) E (c_X11_holds (l := l) (G := G) (ct := ct) (aX := aX) (aN := aN) (aK := aK) (aT := aT) (aH := aH) (aR := aR) (aV := aV) (gG := gG) (gY := gY) (gZ := gZ) h7) wv_X11_holds wd_42_23 ⟨Nat.le_of_ble_eq_true rfl, Nat.le_of_ble_eq_true rfl, Nat.le_of_ble_eq_true rfl, Nat.le_of_ble_eq_true rfl⟩ rfl rfl rfl (by decide) rfl rfl (zrX (j := 0) rfl) rfl (Nat.le_of_ble_eq_true rfl) dX11_item_28 rfl rfl ?_
        refine z_if_ne (pc := 31) (tgt := 37) E dX11_item_31 (by decide) (fun c8 => ?_) (fun c8 => ?_)
        · have hf := kB_f hf c8
          refine z_aload_n (pc := 37) (k0 := 0) E dX11_item_37 rfl rfl ?_
          refine gX_4 (pc := 38) (i := 0) E rfl wd_2_4 dX11_item_38 ?_
          refine z_iload_n (pc := 41) (k0 := 1) E dX11_item_41 rfl rfl ?_
          obtain ⟨c9, hf⟩ := kO_e hf
          refine vzA (pc := 42) (i := 6) E rfl c9 dX11_item_42 ?_
          refine z_iload_n (pc := 43) (k0 := 2) E dX11_item_43 rfl rfl ?_
          refine z_aload_n (pc := 44) (k0 := 0) E dX11_item_44 rfl rfl ?_
          refine gX_5 (pc := 45) (i := 0) E rfl wd_2_6 dX11_item_45 ?_
          refine z_iload_n (pc := 48) (k0 := 1) E dX11_item_48 rfl rfl ?_
          obtain ⟨c10, hf⟩ := kO_e hf
          refine lX_5 (pc := 49) (i := 0) E rfl c10 dX11_item_49 ?_
          refine z_lload_n (pc := 50) (k0 := 3) E dX11_item_50 rfl rfl ?_
          obtain ⟨r11, h12, hf⟩ := kC_e hf
          refine z_callS0 (pc := 51) (is := []) (n := 2) (As := [.int ((SX.2 5) (Int32.toNatClampNeg a1)), .long a3]) (st := [.int a2, .ref (aV (Int32.toNatClampNeg a1))]) (st' := [.long r11, .int a2, .ref (aV (Int32.toNatClampNeg a1))]) (C2 := [wX aX (aN 200) (aK 200) (aT 200) (aR 200) (aV 6) gG gY gZ ct SX, wH aN ct SN, wH aK ct SK, wT aT (aH 200) ct ST, wH aH ct SH, wR aR ct SR, wV aV ct SV, wA gG 21 ct SG, wA gY 5 ct SY, wA gZ 5 ct SZ, wDp gG SD, wDh ct SE]) E (c_X11_cut (l := l) (G := G) (ct := ct)  h12) wv_X11_cut wd_51_20 ⟨Nat.le_of_ble_eq_true rfl, Nat.le_of_ble_eq_true rfl, Nat.le_of_ble_eq_true rfl, Nat.le_of_ble_eq_true rfl⟩ rfl rfl rfl (by decide) rfl rfl rfl (Nat.le_of_ble_eq_true rfl) dX11_item_51 rfl rfl ?_
          obtain ⟨c13, hf⟩ := kO_e hf
          obtain ⟨SV_14, e_SV_14, hf⟩ := kL_e hf
          refine vzS (pc := 54) (i := 6) (S1 := SV_14) E rfl (Nat.lt_of_not_le fun q => c9 (Or.inr q)) c13 e_SV_14 dX11_item_54 ?_
          show zJ p l e rm_X11_item s m args below meth c (zQ G ct (some (.int r0)) [wX aX (aN 200) (aK 200) (aT 200) (aR 200) (aV 6) gG gY gZ ct SX, wH aN ct SN, wH aK ct SK, wT aT (aH 200) ct ST, wH aH ct SH, wR aR ct SR, wV aV ct OV, wA gG 21 ct SG, wA gY 5 ct SY, wA gZ 5 ct SZ, wDp gG SD, wDh ct SE] A below args s 0 0) A G 5 0 0 [wX aX (aN 200) (aK 200) (aT 200) (aR 200) (aV 6) gG gY gZ ct SX, wH aN ct SN, wH aK ct SK, wT aT (aH 200) ct ST, wH aH ct SH, wR aR ct SR, wV aV ct SV_14, wA gG 21 ct SG, wA gY 5 ct SY, wA gZ 5 ct SZ, wDp gG SD, wDh ct SE] [(0, .ref (aX 200)), (1, .int a1), (2, .int a2), (3, .long a3)] 55 []
          refine z_iconst (pc := 55) (v := 1) E dX11_item_55 (by decide) ?_
          cases hf
          exact z_iret E hr dX11_item_56
        · have hf := kB_t hf c8
          refine z_bipush (pc := 34) (v := (-13)) E dX11_item_34 (by decide) ?_
          cases hf
          exact z_iret E hr dX11_item_36
      · have hf := kB_f hf c4
        refine z_bipush (pc := 21) (v := (-11)) E dX11_item_21 (by decide) ?_
        cases hf
        exact z_iret E hr dX11_item_23
    · have hf := kB_f hf c2
      refine z_iconst (pc := 10) (v := (-1)) E dX11_item_10 (by decide) ?_
      cases hf
      exact z_iret E hr dX11_item_11
noncomputable def f_X11_read (SX : zRS) (SN : zHS) (SK : zHS) (ST : zTS) (SH : zHS) (SR : zRS) (SV : (Nat → Nat → Int64)) (SG : (Nat → Int32)) (SY : (Nat → Int32)) (SZ : (Nat → Int32)) (SD : (List (Nat × zPS))) (SE : (List ((Nat → Nat) × zQS))) (a1 : Int32) (a2 : Int32) : Option Int64 := kL (a2.toInt64) (fun v1 => kC (f_X11_holds SX SN SK ST SH SR SV SG SY SZ SD SE a1 v1) (fun r2 => kB (r2 = 0) (some ((-9223372036854775808))) (kO (¬ (a1 < 0 ∨ 6 ≤ Int32.toNatClampNeg a1)) (kO (¬ (a2 < 0 ∨ 60 ≤ Int32.toNatClampNeg a2)) (some ((SV (Int32.toNatClampNeg a1) (Int32.toNatClampNeg a2))))))))
theorem wv_X11_read : zWV RX11 yX11_read cX11_read 3 (some .long) 2 := ⟨wd_52_8, wd_52_9, wd_1_2, wd_52_10, by decide +kernel⟩
def rm_X11_read : Room := { frames := 1, cells := 0, slots := 0, locals := 23 }
set_option maxHeartbeats 4000000 in
set_option maxRecDepth 100000 in
theorem c_X11_read {l : Launch} {G : va_G} {ct : Nat → ClassId} {aX : Nat → Nat} {aN : Nat → Nat} {aK : Nat → Nat} {aT : Nat → Nat} {aH : Nat → Nat} {aR : Nat → Nat} {aV : Nat → Nat} {gG : Nat} {gY : Nat} {gZ : Nat} {SX : zRS} {SN : zHS} {SK : zHS} {ST : zTS} {SH : zHS} {SR : zRS} {SV : (Nat → Nat → Int64)} {SG : (Nat → Int32)} {SY : (Nat → Int32)} {SZ : (Nat → Int32)} {SD : (List (Nat × zPS))} {SE : (List ((Nat → Nat) × zQS))} {a1 : Int32} {a2 : Int32} {r0 : Int64} (hf : f_X11_read SX SN SK ST SH SR SV SG SY SZ SD SE a1 a2 = some r0) : zC l yX11_read cX11_read 3 (some .long) rm_X11_read G ct [.ref (aX 200), .int a1, .int a2] [wX aX (aN 200) (aK 200) (aT 200) (aR 200) (aV 6) gG gY gZ ct SX, wH aN ct SN, wH aK ct SK, wT aT (aH 200) ct ST, wH aH ct SH, wR aR ct SR, wV aV ct SV, wA gG 21 ct SG, wA gY 5 ct SY, wA gZ 5 ct SZ, wDp gG SD, wDh ct SE] [wX aX (aN 200) (aK 200) (aT 200) (aR 200) (aV 6) gG gY gZ ct SX, wH aN ct SN, wH aK ct SK, wT aT (aH 200) ct ST, wH aH ct SH, wR aR ct SR, wV aV ct SV, wA gG 21 ct SG, wA gY 5 ct SY, wA gZ 5 ct SZ, wDp gG SD, wDh ct SE] (some (.long r0)) 0 0 := by
  refine z_enter (own := RX11) (lv := [(0, .ref (aX 200)), (1, .int a1), (2, .int a2)]) (by decide) rfl (Nat.le_of_ble_eq_true rfl) rfl ?_
  intro p e s m args below meth c A E hr hnm
  unfold f_X11_read at hf
  refine z_aload_n (pc := 0) (k0 := 0) E dX11_read_0 rfl rfl ?_
  refine z_iload_n (pc := 1) (k0 := 1) E dX11_read_1 rfl rfl ?_
  refine z_iload_n (pc := 2) (k0 := 2) E dX11_read_2 rfl rfl ?_
  obtain ⟨v1, e_v1, hf⟩ := kL_e hf
  refine z_i2l (pc := 3) (v := v1) E dX11_read_3 e_v1 ?_
  obtain ⟨r2, h3, hf⟩ := kC_e hf
  refine z_callV0 (pc := 4) (is := [0, 1, 2, 3, 4, 5, 6, 7, 8, 9, 10, 11]) (n := 2) (As := [.int a1, .long v1]) (st := []) (st' := [.int r2]) (C2 := [wX aX (aN 200) (aK 200) (aT 200) (aR 200) (aV 6) gG gY gZ ct SX, wH aN ct SN, wH aK ct SK, wT aT (aH 200) ct ST, wH aH ct SH, wR aR ct SR, wV aV ct SV, wA gG 21 ct SG, wA gY 5 ct SY, wA gZ 5 ct SZ, wDp gG SD, wDh ct SE]) E (c_X11_holds (l := l) (G := G) (ct := ct) (aX := aX) (aN := aN) (aK := aK) (aT := aT) (aH := aH) (aR := aR) (aV := aV) (gG := gG) (gY := gY) (gZ := gZ) h3) wv_X11_holds wd_42_23 ⟨Nat.le_of_ble_eq_true rfl, Nat.le_of_ble_eq_true rfl, Nat.le_of_ble_eq_true rfl, Nat.le_of_ble_eq_true rfl⟩ rfl rfl rfl (by decide) rfl rfl (zrX (j := 0) rfl) rfl (Nat.le_of_ble_eq_true rfl) dX11_read_4 rfl rfl ?_
  refine z_if_eq (pc := 7) (tgt := 21) E dX11_read_7 (by decide) (fun c4 => ?_) (fun c4 => ?_)
  · have hf := kB_t hf c4
    refine z_ldc2 (pc := 21) (v := (-9223372036854775808)) E wd_40_23 dX11_read_21 ?_
    cases hf
    exact z_lret E hr dX11_read_24
  · have hf := kB_f hf c4
    refine z_aload_n (pc := 10) (k0 := 0) E dX11_read_10 rfl rfl ?_
    refine gX_4 (pc := 11) (i := 0) E rfl wd_2_4 dX11_read_11 ?_
    refine z_iload_n (pc := 14) (k0 := 1) E dX11_read_14 rfl rfl ?_
    obtain ⟨c5, hf⟩ := kO_e hf
    refine vzA (pc := 15) (i := 6) E rfl c5 dX11_read_15 ?_
    refine z_iload_n (pc := 16) (k0 := 2) E dX11_read_16 rfl rfl ?_
    obtain ⟨c6, hf⟩ := kO_e hf
    refine vzL (pc := 17) (i := 6) E rfl (Nat.lt_of_not_le fun q => c5 (Or.inr q)) c6 dX11_read_17 ?_
    refine z_goto (pc := 18) (tgt := 24) E dX11_read_18 (by decide) ?_
    cases hf
    exact z_lret E hr dX11_read_24
noncomputable def f_X11_shift (SX : zRS) (SN : zHS) (SK : zHS) (ST : zTS) (SH : zHS) (SR : zRS) (SV : (Nat → Nat → Int64)) (SG : (Nat → Int32)) (SY : (Nat → Int32)) (SZ : (Nat → Int32)) (SD : (List (Nat × zPS))) (SE : (List ((Nat → Nat) × zQS))) (a1 : Int32) (a2 : Int32) (a3 : Int32) (a4 : Int32) (a5 : Int32) : Option (Int32 × ((Nat → Nat → Int64))) := kB (a1 < 0) (some ((-1), SV)) (kB (6 ≤ a1) (some ((-1), SV)) (kB (a3 < 0) (some ((-1), SV)) (kB (a3 < 6) (kO (¬ (a1 < 0 ∨ 6 ≤ Int32.toNatClampNeg a1)) (kB (((SX.2 5) (Int32.toNatClampNeg a1)) < 0) (some ((-11), SV)) (kO (¬ (a3 < 0 ∨ 6 ≤ Int32.toNatClampNeg a3)) (kB (0 ≤ ((SX.2 5) (Int32.toNatClampNeg a3))) (kO (¬ (a1 < 0 ∨ 6 ≤ Int32.toNatClampNeg a1)) (kO (¬ (a3 < 0 ∨ 6 ≤ Int32.toNatClampNeg a3)) (kB (((SX.2 5) (Int32.toNatClampNeg a1)) = ((SX.2 5) (Int32.toNatClampNeg a3))) (kB (a5 < 0) (some ((-13), SV)) (kB (a2 < 0) (some ((-13), SV)) (kB (0 ≤ a4) (kL (a2.toInt64) (fun v15 => kL (a5.toInt64) (fun v16 => kL (v15 + v16) (fun v17 => kO (¬ (a1 < 0 ∨ 6 ≤ Int32.toNatClampNeg a1)) (kL (((SX.2 6) (Int32.toNatClampNeg a1)).toInt64) (fun v19 => kL (lg_cmp v17 v19) (fun v20 => kB (0 < v20) (some ((-13), SV)) (kL (a4.toInt64) (fun v22 => kL (a5.toInt64) (fun v23 => kL (v22 + v23) (fun v24 => kO (¬ (a3 < 0 ∨ 6 ≤ Int32.toNatClampNeg a3)) (kL (((SX.2 6) (Int32.toNatClampNeg a3)).toInt64) (fun v26 => kL (lg_cmp v24 v26) (fun v27 => kB (v27 ≤ 0) (kO (¬ (a1 < 0 ∨ 6 ≤ Int32.toNatClampNeg a1)) (kO (¬ (a3 < 0 ∨ 6 ≤ Int32.toNatClampNeg a3)) (kO (¬ a2 < 0) (kO (¬ a4 < 0) (kO (¬ a5 < 0) (kO (Int32.toNatClampNeg a2 + Int32.toNatClampNeg a5 ≤ 60) (kO (Int32.toNatClampNeg a4 + Int32.toNatClampNeg a5 ≤ 60) (kL (va_up SV (Int32.toNatClampNeg a3) (va_cpy (SV (Int32.toNatClampNeg a1)) (SV (Int32.toNatClampNeg a3)) (Int32.toNatClampNeg a2) (Int32.toNatClampNeg a4) (Int32.toNatClampNeg a5))) (fun SV_36 => some (a5, SV_36)))))))))) (some ((-13), SV)))))))))))))))) (some ((-13), SV))))) (some ((-12), SV))))) (some ((-11), SV)))))) (some ((-1), SV)))))
theorem wv_X11_shift : zWV RX11 yX11_shift cX11_shift 6 (some .int) 5 := ⟨wd_52_16, wd_52_17, wd_1_2, wd_52_18, by decide +kernel⟩
def rm_X11_shift : Room := { frames := 1, cells := 0, slots := 0, locals := 100 }
set_option maxHeartbeats 4000000 in
set_option maxRecDepth 100000 in
theorem c_X11_shift {l : Launch} {G : va_G} {ct : Nat → ClassId} {aX : Nat → Nat} {aN : Nat → Nat} {aK : Nat → Nat} {aT : Nat → Nat} {aH : Nat → Nat} {aR : Nat → Nat} {aV : Nat → Nat} {gG : Nat} {gY : Nat} {gZ : Nat} {SX : zRS} {SN : zHS} {SK : zHS} {ST : zTS} {SH : zHS} {SR : zRS} {SV : (Nat → Nat → Int64)} {SG : (Nat → Int32)} {SY : (Nat → Int32)} {SZ : (Nat → Int32)} {SD : (List (Nat × zPS))} {SE : (List ((Nat → Nat) × zQS))} {a1 : Int32} {a2 : Int32} {a3 : Int32} {a4 : Int32} {a5 : Int32} {r0 : Int32} {OV : (Nat → Nat → Int64)} (hf : f_X11_shift SX SN SK ST SH SR SV SG SY SZ SD SE a1 a2 a3 a4 a5 = some (r0, OV)) : zC l yX11_shift cX11_shift 6 (some .int) rm_X11_shift G ct [.ref (aX 200), .int a1, .int a2, .int a3, .int a4, .int a5] [wX aX (aN 200) (aK 200) (aT 200) (aR 200) (aV 6) gG gY gZ ct SX, wH aN ct SN, wH aK ct SK, wT aT (aH 200) ct ST, wH aH ct SH, wR aR ct SR, wV aV ct SV, wA gG 21 ct SG, wA gY 5 ct SY, wA gZ 5 ct SZ, wDp gG SD, wDh ct SE] [wX aX (aN 200) (aK 200) (aT 200) (aR 200) (aV 6) gG gY gZ ct SX, wH aN ct SN, wH aK ct SK, wT aT (aH 200) ct ST, wH aH ct SH, wR aR ct SR, wV aV ct OV, wA gG 21 ct SG, wA gY 5 ct SY, wA gZ 5 ct SZ, wDp gG SD, wDh ct SE] (some (.int r0)) 0 0 := by
  refine z_enter (own := RX11) (lv := [(0, .ref (aX 200)), (1, .int a1), (2, .int a2), (3, .int a3), (4, .int a4), (5, .int a5)]) (by decide) rfl (Nat.le_of_ble_eq_true rfl) rfl ?_
  intro p e s m args below meth c A E hr hnm
  unfold f_X11_shift at hf
  refine z_iload_n (pc := 0) (k0 := 1) E dX11_shift_0 rfl rfl ?_
  refine z_if_lt (pc := 1) (tgt := 20) E dX11_shift_1 (by decide) (fun c1 => ?_) (fun c1 => ?_)
  · have hf := kB_t hf c1
    refine z_iconst (pc := 20) (v := (-1)) E dX11_shift_20 (by decide) ?_
    cases hf
    exact z_iret E hr dX11_shift_21
  · have hf := kB_f hf c1
    refine z_iload_n (pc := 4) (k0 := 1) E dX11_shift_4 rfl rfl ?_
    refine z_bipush (pc := 5) (v := 6) E dX11_shift_5 (by decide) ?_
    refine z_icmp_ge (pc := 7) (tgt := 20) E dX11_shift_7 (by decide) (fun c2 => ?_) (fun c2 => ?_)
    · have hf := kB_t hf c2
      refine z_iconst (pc := 20) (v := (-1)) E dX11_shift_20 (by decide) ?_
      cases hf
      exact z_iret E hr dX11_shift_21
    · have hf := kB_f hf c2
      refine z_iload_n (pc := 10) (k0 := 3) E dX11_shift_10 rfl rfl ?_
      refine z_if_lt (pc := 11) (tgt := 20) E dX11_shift_11 (by decide) (fun c3 => ?_) (fun c3 => ?_)
      · have hf := kB_t hf c3
        refine z_iconst (pc := 20) (v := (-1)) E dX11_shift_20 (by decide) ?_
        cases hf
        exact z_iret E hr dX11_shift_21
      · have hf := kB_f hf c3
        refine z_iload_n (pc := 14) (k0 := 3) E dX11_shift_14 rfl rfl ?_
        refine z_bipush (pc := 15) (v := 6) E dX11_shift_15 (by decide) ?_
        refine z_icmp_lt (pc := 17) (tgt := 22) E dX11_shift_17 (by decide) (fun c4 => ?_) (fun c4 => ?_)
        · have hf := kB_t hf c4
          refine z_aload_n (pc := 22) (k0 := 0) E dX11_shift_22 rfl rfl ?_
          refine gX_5 (pc := 23) (i := 0) E rfl wd_2_6 dX11_shift_23 ?_
          refine z_iload_n (pc := 26) (k0 := 1) E dX11_shift_26 rfl rfl ?_
          obtain ⟨c5, hf⟩ := kO_e hf
          refine lX_5 (pc := 27) (i := 0) E rfl c5 dX11_shift_27 ?_
          refine z_if_lt (pc := 28) (tgt := 40) E dX11_shift_28 (by decide) (fun c6 => ?_) (fun c6 => ?_)
          · have hf := kB_t hf c6
            refine z_bipush (pc := 40) (v := (-11)) E dX11_shift_40 (by decide) ?_
            cases hf
            exact z_iret E hr dX11_shift_42
          · have hf := kB_f hf c6
            refine z_aload_n (pc := 31) (k0 := 0) E dX11_shift_31 rfl rfl ?_
            refine gX_5 (pc := 32) (i := 0) E rfl wd_2_6 dX11_shift_32 ?_
            refine z_iload_n (pc := 35) (k0 := 3) E dX11_shift_35 rfl rfl ?_
            obtain ⟨c7, hf⟩ := kO_e hf
            refine lX_5 (pc := 36) (i := 0) E rfl c7 dX11_shift_36 ?_
            refine z_if_ge (pc := 37) (tgt := 43) E dX11_shift_37 (by decide) (fun c8 => ?_) (fun c8 => ?_)
            · have hf := kB_t hf c8
              refine z_aload_n (pc := 43) (k0 := 0) E dX11_shift_43 rfl rfl ?_
              refine gX_5 (pc := 44) (i := 0) E rfl wd_2_6 dX11_shift_44 ?_
              refine z_iload_n (pc := 47) (k0 := 1) E dX11_shift_47 rfl rfl ?_
              obtain ⟨c9, hf⟩ := kO_e hf
              refine lX_5 (pc := 48) (i := 0) E rfl c9 dX11_shift_48 ?_
              refine z_aload_n (pc := 49) (k0 := 0) E dX11_shift_49 rfl rfl ?_
              refine gX_5 (pc := 50) (i := 0) E rfl wd_2_6 dX11_shift_50 ?_
              refine z_iload_n (pc := 53) (k0 := 3) E dX11_shift_53 rfl rfl ?_
              obtain ⟨c10, hf⟩ := kO_e hf
              refine lX_5 (pc := 54) (i := 0) E rfl c10 dX11_shift_54 ?_
              refine z_icmp_eq (pc := 55) (tgt := 61) E dX11_shift_55 (by decide) (fun c11 => ?_) (fun c11 => ?_)
              · have hf := kB_t hf c11
                refine z_iload (pc := 61) (k0 := 5) E dX11_shift_61 rfl ?_
                refine z_if_lt (pc := 63) (tgt := 75) E dX11_shift_63 (by decide) (fun c12 => ?_) (fun c12 => ?_)
                · have hf := kB_t hf c12
                  refine z_bipush (pc := 75) (v := (-13)) E dX11_shift_75 (by decide) ?_
                  cases hf
                  exact z_iret E hr dX11_shift_77
                · have hf := kB_f hf c12
                  refine z_iload_n (pc := 66) (k0 := 2) E dX11_shift_66 rfl rfl ?_
                  refine z_if_lt (pc := 67) (tgt := 75) E dX11_shift_67 (by decide) (fun c13 => ?_) (fun c13 => ?_)
                  · have hf := kB_t hf c13
                    refine z_bipush (pc := 75) (v := (-13)) E dX11_shift_75 (by decide) ?_
                    cases hf
                    exact z_iret E hr dX11_shift_77
                  · have hf := kB_f hf c13
                    refine z_iload (pc := 70) (k0 := 4) E dX11_shift_70 rfl ?_
                    refine z_if_ge (pc := 72) (tgt := 78) E dX11_shift_72 (by decide) (fun c14 => ?_) (fun c14 => ?_)
                    · have hf := kB_t hf c14
                      refine z_iload_n (pc := 78) (k0 := 2) E dX11_shift_78 rfl rfl ?_
                      obtain ⟨v15, e_v15, hf⟩ := kL_e hf
                      refine z_i2l (pc := 79) (v := v15) E dX11_shift_79 e_v15 ?_
                      refine z_iload (pc := 80) (k0 := 5) E dX11_shift_80 rfl ?_
                      obtain ⟨v16, e_v16, hf⟩ := kL_e hf
                      refine z_i2l (pc := 82) (v := v16) E dX11_shift_82 e_v16 ?_
                      obtain ⟨v17, e_v17, hf⟩ := kL_e hf
                      refine z_ladd (pc := 83) (v := v17) E dX11_shift_83 e_v17 ?_
                      refine z_aload_n (pc := 84) (k0 := 0) E dX11_shift_84 rfl rfl ?_
                      refine gX_6 (pc := 85) (i := 0) E rfl wd_2_7 dX11_shift_85 ?_
                      refine z_iload_n (pc := 88) (k0 := 1) E dX11_shift_88 rfl rfl ?_
                      obtain ⟨c18, hf⟩ := kO_e hf
                      refine lX_6 (pc := 89) (i := 0) E rfl c18 dX11_shift_89 ?_
                      obtain ⟨v19, e_v19, hf⟩ := kL_e hf
                      refine z_i2l (pc := 90) (v := v19) E dX11_shift_90 e_v19 ?_
                      obtain ⟨v20, e_v20, hf⟩ := kL_e hf
                      refine z_lcmp (pc := 91) (v := v20) E dX11_shift_91 e_v20 ?_
                      refine z_if_gt (pc := 92) (tgt := 113) E dX11_shift_92 (by decide) (fun c21 => ?_) (fun c21 => ?_)
                      · have hf := kB_t hf c21
                        refine z_bipush (pc := 113) (v := (-13)) E dX11_shift_113 (by decide) ?_
                        cases hf
                        exact z_iret E hr dX11_shift_115
                      · have hf := kB_f hf c21
                        refine z_iload (pc := 95) (k0 := 4) E dX11_shift_95 rfl ?_
                        obtain ⟨v22, e_v22, hf⟩ := kL_e hf
                        refine z_i2l (pc := 97) (v := v22) E dX11_shift_97 e_v22 ?_
                        refine z_iload (pc := 98) (k0 := 5) E dX11_shift_98 rfl ?_
                        obtain ⟨v23, e_v23, hf⟩ := kL_e hf
                        refine z_i2l (pc := 100) (v := v23) E dX11_shift_100 e_v23 ?_
                        obtain ⟨v24, e_v24, hf⟩ := kL_e hf
                        refine z_ladd (pc := 101) (v := v24) E dX11_shift_101 e_v24 ?_
                        refine z_aload_n (pc := 102) (k0 := 0) E dX11_shift_102 rfl rfl ?_
                        refine gX_6 (pc := 103) (i := 0) E rfl wd_2_7 dX11_shift_103 ?_
                        refine z_iload_n (pc := 106) (k0 := 3) E dX11_shift_106 rfl rfl ?_
                        obtain ⟨c25, hf⟩ := kO_e hf
                        refine lX_6 (pc := 107) (i := 0) E rfl c25 dX11_shift_107 ?_
                        obtain ⟨v26, e_v26, hf⟩ := kL_e hf
                        refine z_i2l (pc := 108) (v := v26) E dX11_shift_108 e_v26 ?_
                        obtain ⟨v27, e_v27, hf⟩ := kL_e hf
                        refine z_lcmp (pc := 109) (v := v27) E dX11_shift_109 e_v27 ?_
                        refine z_if_le (pc := 110) (tgt := 116) E dX11_shift_110 (by decide) (fun c28 => ?_) (fun c28 => ?_)
                        · have hf := kB_t hf c28
                          refine z_aload_n (pc := 116) (k0 := 0) E dX11_shift_116 rfl rfl ?_
                          refine gX_4 (pc := 117) (i := 0) E rfl wd_2_4 dX11_shift_117 ?_
                          refine z_iload_n (pc := 120) (k0 := 1) E dX11_shift_120 rfl rfl ?_
                          obtain ⟨c29, hf⟩ := kO_e hf
                          refine vzA (pc := 121) (i := 6) E rfl c29 dX11_shift_121 ?_
                          refine z_iload_n (pc := 122) (k0 := 2) E dX11_shift_122 rfl rfl ?_
                          refine z_aload_n (pc := 123) (k0 := 0) E dX11_shift_123 rfl rfl ?_
                          refine gX_4 (pc := 124) (i := 0) E rfl wd_2_4 dX11_shift_124 ?_
                          refine z_iload_n (pc := 127) (k0 := 3) E dX11_shift_127 rfl rfl ?_
                          obtain ⟨c30, hf⟩ := kO_e hf
                          refine vzA (pc := 128) (i := 6) E rfl c30 dX11_shift_128 ?_
                          refine z_iload (pc := 129) (k0 := 4) E dX11_shift_129 rfl ?_
                          refine z_iload (pc := 131) (k0 := 5) E dX11_shift_131 rfl ?_
                          obtain ⟨c31, hf⟩ := kO_e hf
                          obtain ⟨c32, hf⟩ := kO_e hf
                          obtain ⟨c33, hf⟩ := kO_e hf
                          obtain ⟨c34, hf⟩ := kO_e hf
                          obtain ⟨c35, hf⟩ := kO_e hf
                          obtain ⟨SV_36, e_SV_36, hf⟩ := kL_e hf
                          refine z_copyl (pc := 133) (i0 := 6) (i1 := 6) E wd_37_3 wd_25_10 wd_25_11 wd_25_12 rfl (wV_at _ (Nat.lt_of_not_le fun q => c29 (Or.inr q))) rfl (wV_at _ (Nat.lt_of_not_le fun q => c30 (Or.inr q))) c31 c32 c33 c34 c35 ((wV_set _ (Nat.lt_of_not_le fun q => c30 (Or.inr q))).trans (congrArg (wV aV ct) e_SV_36.symm)) ⟨Nat.le_of_ble_eq_true rfl, Nat.le_of_ble_eq_true rfl⟩ dX11_shift_133 ?_
                          show zJ p l e rm_X11_shift s m args below meth c (zQ G ct (some (.int r0)) [wX aX (aN 200) (aK 200) (aT 200) (aR 200) (aV 6) gG gY gZ ct SX, wH aN ct SN, wH aK ct SK, wT aT (aH 200) ct ST, wH aH ct SH, wR aR ct SR, wV aV ct OV, wA gG 21 ct SG, wA gY 5 ct SY, wA gZ 5 ct SZ, wDp gG SD, wDh ct SE] A below args s 0 0) A G 6 0 0 [wX aX (aN 200) (aK 200) (aT 200) (aR 200) (aV 6) gG gY gZ ct SX, wH aN ct SN, wH aK ct SK, wT aT (aH 200) ct ST, wH aH ct SH, wR aR ct SR, wV aV ct SV_36, wA gG 21 ct SG, wA gY 5 ct SY, wA gZ 5 ct SZ, wDp gG SD, wDh ct SE] [(0, .ref (aX 200)), (1, .int a1), (2, .int a2), (3, .int a3), (4, .int a4), (5, .int a5)] 136 []
                          refine z_iload (pc := 136) (k0 := 5) E dX11_shift_136 rfl ?_
                          cases hf
                          exact z_iret E hr dX11_shift_138
                        · have hf := kB_f hf c28
                          refine z_bipush (pc := 113) (v := (-13)) E dX11_shift_113 (by decide) ?_
                          cases hf
                          exact z_iret E hr dX11_shift_115
                    · have hf := kB_f hf c14
                      refine z_bipush (pc := 75) (v := (-13)) E dX11_shift_75 (by decide) ?_
                      cases hf
                      exact z_iret E hr dX11_shift_77
              · have hf := kB_f hf c11
                refine z_bipush (pc := 58) (v := (-12)) E dX11_shift_58 (by decide) ?_
                cases hf
                exact z_iret E hr dX11_shift_60
            · have hf := kB_f hf c8
              refine z_bipush (pc := 40) (v := (-11)) E dX11_shift_40 (by decide) ?_
              cases hf
              exact z_iret E hr dX11_shift_42
        · have hf := kB_f hf c4
          refine z_iconst (pc := 20) (v := (-1)) E dX11_shift_20 (by decide) ?_
          cases hf
          exact z_iret E hr dX11_shift_21
