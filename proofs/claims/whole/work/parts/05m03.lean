noncomputable def f_X12_how (N : Nat) (SM : zMS) : Option Int32 := kC (f_X12_deep N SM) (fun r1 => kB ((SM.1 4) < r1) (kC (f_X12_late N SM) (fun r4 => kB ((SM.1 3) < r4) (some (0)) (some (2)))) (some (1)))
theorem wv_X12_how : zWV RX12 yX12_how cX12_how 1 (some .int) 0 := ⟨wd_29_16, wd_29_17, wd_1_5, wd_29_18, by decide +kernel⟩
def rm_X12_how : Room := { frames := 3, cells := 0, slots := 0, locals := 64 }
set_option maxHeartbeats 4000000 in
set_option maxRecDepth 100000 in
theorem c_X12_how {l : Launch} {G : va_G} {ct : Nat → ClassId} {aM : Nat → Nat} {N : Nat} {SM : zMS} {r0 : Int32} (hf : f_X12_how N SM = some r0) : zC l yX12_how cX12_how 1 (some .int) rm_X12_how G ct [.ref (aM 200)] [wM aM ct SM] [wM aM ct SM] (some (.int r0)) 0 0 := by
  refine z_enter (own := RX12) (lv := [(0, .ref (aM 200))]) (by decide) rfl (Nat.le_of_ble_eq_true rfl) rfl ?_
  intro p e s m args below meth c A E hr hnm
  unfold f_X12_how at hf
  refine z_aload_n (pc := 0) (k0 := 0) E dX12_how_0 rfl rfl ?_
  refine gM_4 (pc := 1) (i := 0) E rfl wd_3_23 dX12_how_1 ?_
  refine z_aload_n (pc := 4) (k0 := 0) E dX12_how_4 rfl rfl ?_
  obtain ⟨r1, h2, hf⟩ := kC_e hf
  refine z_callV0 (pc := 5) (is := [0]) (n := 0) (As := []) (st := [.int (SM.1 4)]) (st' := [.int r1, .int (SM.1 4)]) (C2 := [wM aM ct SM]) E (c_X12_deep (l := l) (G := G) (ct := ct) (aM := aM) h2) wv_X12_deep wd_29_11 ⟨Nat.le_of_ble_eq_true rfl, Nat.le_of_ble_eq_true rfl, Nat.le_of_ble_eq_true rfl, Nat.le_of_ble_eq_true rfl⟩ rfl rfl rfl (by decide) rfl rfl (zrM (j := 0) rfl) rfl (Nat.le_of_ble_eq_true rfl) dX12_how_5 rfl rfl ?_
  refine z_icmp_lt (pc := 8) (tgt := 15) E dX12_how_8 (by decide) (fun c3 => ?_) (fun c3 => ?_)
  · have hf := kB_t hf c3
    refine z_aload_n (pc := 15) (k0 := 0) E dX12_how_15 rfl rfl ?_
    refine gM_3 (pc := 16) (i := 0) E rfl wd_3_22 dX12_how_16 ?_
    refine z_aload_n (pc := 19) (k0 := 0) E dX12_how_19 rfl rfl ?_
    obtain ⟨r4, h5, hf⟩ := kC_e hf
    refine z_callV0 (pc := 20) (is := [0]) (n := 0) (As := []) (st := [.int (SM.1 3)]) (st' := [.int r4, .int (SM.1 3)]) (C2 := [wM aM ct SM]) E (c_X12_late (l := l) (G := G) (ct := ct) (aM := aM) h5) wv_X12_late wd_16_1 ⟨Nat.le_of_ble_eq_true rfl, Nat.le_of_ble_eq_true rfl, Nat.le_of_ble_eq_true rfl, Nat.le_of_ble_eq_true rfl⟩ rfl rfl rfl (by decide) rfl rfl (zrM (j := 0) rfl) rfl (Nat.le_of_ble_eq_true rfl) dX12_how_20 rfl rfl ?_
    refine z_icmp_lt (pc := 23) (tgt := 30) E dX12_how_23 (by decide) (fun c6 => ?_) (fun c6 => ?_)
    · have hf := kB_t hf c6
      refine z_iconst (pc := 30) (v := 0) E dX12_how_30 (by decide) ?_
      cases hf
      exact z_iret E hr dX12_how_31
    · have hf := kB_f hf c6
      refine z_iconst (pc := 26) (v := 2) E dX12_how_26 (by decide) ?_
      refine z_goto (pc := 27) (tgt := 31) E dX12_how_27 (by decide) ?_
      cases hf
      exact z_iret E hr dX12_how_31
  · have hf := kB_f hf c3
    refine z_iconst (pc := 11) (v := 1) E dX12_how_11 (by decide) ?_
    refine z_goto (pc := 12) (tgt := 31) E dX12_how_12 (by decide) ?_
    cases hf
    exact z_iret E hr dX12_how_31
noncomputable def f_X12_isEarly (N : Nat) (SM : zMS) (a1 : Int32) : Option Int32 := kO (¬ (a1 < 0 ∨ 7 ≤ Int32.toNatClampNeg a1)) (kL ((SM.1 3) + (SM.2.1 8 (Int32.toNatClampNeg a1))) (fun v2 => kC (f_X12_late N SM) (fun r3 => kB (r3 ≤ v2) (some (0)) (some (1)))))
theorem wv_X12_isEarly : zWV RX12 yX12_isEarly cX12_isEarly 2 (some .boolean) 1 := ⟨wd_15_22, wd_15_23, wd_1_5, wd_16_0, by decide +kernel⟩
def rm_X12_isEarly : Room := { frames := 3, cells := 0, slots := 0, locals := 64 }
set_option maxHeartbeats 4000000 in
set_option maxRecDepth 100000 in
theorem c_X12_isEarly {l : Launch} {G : va_G} {ct : Nat → ClassId} {aM : Nat → Nat} {N : Nat} {SM : zMS} {a1 : Int32} {r0 : Int32} (hf : f_X12_isEarly N SM a1 = some r0) : zC l yX12_isEarly cX12_isEarly 2 (some .boolean) rm_X12_isEarly G ct [.ref (aM 200), .int a1] [wM aM ct SM] [wM aM ct SM] (some (.int r0)) 0 0 := by
  refine z_enter (own := RX12) (lv := [(0, .ref (aM 200)), (1, .int a1)]) (by decide) rfl (Nat.le_of_ble_eq_true rfl) rfl ?_
  intro p e s m args below meth c A E hr hnm
  unfold f_X12_isEarly at hf
  refine z_aload_n (pc := 0) (k0 := 0) E dX12_isEarly_0 rfl rfl ?_
  refine gM_3 (pc := 1) (i := 0) E rfl wd_3_22 dX12_isEarly_1 ?_
  refine z_aload_n (pc := 4) (k0 := 0) E dX12_isEarly_4 rfl rfl ?_
  refine gM_8 (pc := 5) (i := 0) E rfl wd_4_3 dX12_isEarly_5 ?_
  refine z_iload_n (pc := 8) (k0 := 1) E dX12_isEarly_8 rfl rfl ?_
  obtain ⟨c1, hf⟩ := kO_e hf
  refine lM_8 (pc := 9) (i := 0) E rfl c1 dX12_isEarly_9 ?_
  obtain ⟨v2, e_v2, hf⟩ := kL_e hf
  refine z_iadd (pc := 10) (v := v2) E dX12_isEarly_10 e_v2 ?_
  refine z_aload_n (pc := 11) (k0 := 0) E dX12_isEarly_11 rfl rfl ?_
  obtain ⟨r3, h4, hf⟩ := kC_e hf
  refine z_callV0 (pc := 12) (is := [0]) (n := 0) (As := []) (st := [.int v2]) (st' := [.int r3, .int v2]) (C2 := [wM aM ct SM]) E (c_X12_late (l := l) (G := G) (ct := ct) (aM := aM) h4) wv_X12_late wd_16_1 ⟨Nat.le_of_ble_eq_true rfl, Nat.le_of_ble_eq_true rfl, Nat.le_of_ble_eq_true rfl, Nat.le_of_ble_eq_true rfl⟩ rfl rfl rfl (by decide) rfl rfl (zrM (j := 0) rfl) rfl (Nat.le_of_ble_eq_true rfl) dX12_isEarly_12 rfl rfl ?_
  refine z_icmp_ge (pc := 15) (tgt := 22) E dX12_isEarly_15 (by decide) (fun c5 => ?_) (fun c5 => ?_)
  · have hf := kB_t hf c5
    refine z_iconst (pc := 22) (v := 0) E dX12_isEarly_22 (by decide) ?_
    cases hf
    exact z_zret E hr (by decide) dX12_isEarly_23
  · have hf := kB_f hf c5
    refine z_iconst (pc := 18) (v := 1) E dX12_isEarly_18 (by decide) ?_
    refine z_goto (pc := 19) (tgt := 23) E dX12_isEarly_19 (by decide) ?_
    cases hf
    exact z_zret E hr (by decide) dX12_isEarly_23
noncomputable def f_X12_gives (N : Nat) (SM : zMS) (a1 : Int32) (a2 : Int32) : Option Int32 := kO (¬ (a1 < 0 ∨ 4 ≤ Int32.toNatClampNeg a1)) (kB ((SM.2.1 11 (Int32.toNatClampNeg a1)) = 1) (kC (f_X12_isEarly N SM a2) (fun r3 => kB (r3 = 0) (kB ((SM.1 5) ≤ 1) (some (0)) (some (1))) (some (1)))) (kB ((SM.2.1 11 (Int32.toNatClampNeg a1)) = 2) (kC (f_X12_isEarly N SM a2) (fun r8 => kB (r8 = 0) (some (0)) (kO (¬ (a1 < 0 ∨ 4 ≤ Int32.toNatClampNeg a1)) (kB ((SM.2.1 12 (Int32.toNatClampNeg a1)) ≤ (SM.1 6)) (some (0)) (some (1)))))) (kB ((SM.2.1 11 (Int32.toNatClampNeg a1)) = 3) (kO (¬ (a2 < 0 ∨ 7 ≤ Int32.toNatClampNeg a2)) (kO (¬ (a1 < 0 ∨ 4 ≤ Int32.toNatClampNeg a1)) (kB ((SM.2.1 12 (Int32.toNatClampNeg a1)) < (SM.2.1 8 (Int32.toNatClampNeg a2))) (some (0)) (some (1))))) (kB ((SM.2.1 11 (Int32.toNatClampNeg a1)) = 4) (kC (f_X12_isEarly N SM a2) (fun r18 => kB (r18 = 0) (kB (1 < (SM.1 5)) (some (1)) (kO (¬ (a2 < 0 ∨ 7 ≤ Int32.toNatClampNeg a2)) (kB ((SM.2.1 9 (Int32.toNatClampNeg a2)) ≤ 6) (some (0)) (some (1))))) (some (1)))) (kB ((SM.2.1 11 (Int32.toNatClampNeg a1)) = 5) (kC (f_X12_isEarly N SM a2) (fun r25 => kB (r25 = 0) (some (0)) (kO (¬ (a1 < 0 ∨ 4 ≤ Int32.toNatClampNeg a1)) (kB ((SM.2.1 12 (Int32.toNatClampNeg a1)) ≤ (SM.1 6)) (some (0)) (kO (¬ (a2 < 0 ∨ 7 ≤ Int32.toNatClampNeg a2)) (kO (¬ (a1 < 0 ∨ 4 ≤ Int32.toNatClampNeg a1)) (kL ((3 : Int32) * (SM.2.1 12 (Int32.toNatClampNeg a1))) (fun v32 => kB (v32 < (SM.2.1 10 (Int32.toNatClampNeg a2))) (some (0)) (some (1)))))))))) (kB ((SM.2.1 11 (Int32.toNatClampNeg a1)) = 6) (kO (¬ (a2 < 0 ∨ 7 ≤ Int32.toNatClampNeg a2)) (kO (¬ (a1 < 0 ∨ 4 ≤ Int32.toNatClampNeg a1)) (kB ((SM.2.1 12 (Int32.toNatClampNeg a1)) < (SM.2.1 8 (Int32.toNatClampNeg a2))) (some (0)) (kL ((4 : Int32) * a1) (fun v38 => kL ((SM.1 2) - (SM.1 2) / 4 * 4) (fun v39 => kL (v38 + v39) (fun v40 => kO (¬ (v40 < 0 ∨ 16 ≤ Int32.toNatClampNeg v40)) (kB ((SM.2.1 13 (Int32.toNatClampNeg v40)) = 1) (some (1)) (some (0)))))))))) (kC (f_X12_isEarly N SM a2) (fun r43 => kO (r43 = 0 ∨ r43 = 1) (some (r43))))))))))
theorem wv_X12_gives : zWV RX12 yX12_gives cX12_gives 3 (some .boolean) 2 := ⟨wd_15_18, wd_15_19, wd_1_5, wd_15_20, by decide +kernel⟩
def rm_X12_gives : Room := { frames := 4, cells := 0, slots := 0, locals := 85 }
set_option maxHeartbeats 4000000 in
set_option maxRecDepth 100000 in
theorem c_X12_gives {l : Launch} {G : va_G} {ct : Nat → ClassId} {aM : Nat → Nat} {N : Nat} {SM : zMS} {a1 : Int32} {a2 : Int32} {r0 : Int32} (hf : f_X12_gives N SM a1 a2 = some r0) : zC l yX12_gives cX12_gives 3 (some .boolean) rm_X12_gives G ct [.ref (aM 200), .int a1, .int a2] [wM aM ct SM] [wM aM ct SM] (some (.int r0)) 0 0 := by
  refine z_enter (own := RX12) (lv := [(0, .ref (aM 200)), (1, .int a1), (2, .int a2)]) (by decide) rfl (Nat.le_of_ble_eq_true rfl) rfl ?_
  intro p e s m args below meth c A E hr hnm
  unfold f_X12_gives at hf
  refine z_aload_n (pc := 0) (k0 := 0) E dX12_gives_0 rfl rfl ?_
  refine gM_11 (pc := 1) (i := 0) E rfl wd_4_6 dX12_gives_1 ?_
  refine z_iload_n (pc := 4) (k0 := 1) E dX12_gives_4 rfl rfl ?_
  obtain ⟨c1, hf⟩ := kO_e hf
  refine lM_11 (pc := 5) (i := 0) E rfl c1 dX12_gives_5 ?_
  by_cases c2 : (SM.2.1 11 (Int32.toNatClampNeg a1)) = 1
  · have hf := kB_t hf c2
    refine z_tswIn (pc := 6) (tgt := 44) (v := 1) (n := 1) (off := 38) E dX12_gives_6 c2 (by decide) (by decide) (by decide) (by decide) (by decide) ?_
    refine z_aload_n (pc := 44) (k0 := 0) E dX12_gives_44 rfl rfl ?_
    refine z_iload_n (pc := 45) (k0 := 2) E dX12_gives_45 rfl rfl ?_
    obtain ⟨r3, h4, hf⟩ := kC_e hf
    refine z_callV0 (pc := 46) (is := [0]) (n := 1) (As := [.int a2]) (st := []) (st' := [.int r3]) (C2 := [wM aM ct SM]) E (c_X12_isEarly (l := l) (G := G) (ct := ct) (aM := aM) h4) wv_X12_isEarly wd_15_21 ⟨Nat.le_of_ble_eq_true rfl, Nat.le_of_ble_eq_true rfl, Nat.le_of_ble_eq_true rfl, Nat.le_of_ble_eq_true rfl⟩ rfl rfl rfl (by decide) rfl rfl (zrM (j := 0) rfl) rfl (Nat.le_of_ble_eq_true rfl) dX12_gives_46 rfl rfl ?_
    refine z_if_ne (pc := 49) (tgt := 60) E dX12_gives_49 (by decide) (fun c5 => ?_) (fun c5 => ?_)
    · have hf := kB_f hf c5
      refine z_iconst (pc := 60) (v := 1) E dX12_gives_60 (by decide) ?_
      refine z_goto (pc := 61) (tgt := 65) E dX12_gives_61 (by decide) ?_
      cases hf
      exact z_zret E hr (by decide) dX12_gives_65
    · have hf := kB_t hf c5
      refine z_aload_n (pc := 52) (k0 := 0) E dX12_gives_52 rfl rfl ?_
      refine gM_5 (pc := 53) (i := 0) E rfl wd_4_0 dX12_gives_53 ?_
      refine z_iconst (pc := 56) (v := 1) E dX12_gives_56 (by decide) ?_
      refine z_icmp_le (pc := 57) (tgt := 64) E dX12_gives_57 (by decide) (fun c6 => ?_) (fun c6 => ?_)
      · have hf := kB_t hf c6
        refine z_iconst (pc := 64) (v := 0) E dX12_gives_64 (by decide) ?_
        cases hf
        exact z_zret E hr (by decide) dX12_gives_65
      · have hf := kB_f hf c6
        refine z_iconst (pc := 60) (v := 1) E dX12_gives_60 (by decide) ?_
        refine z_goto (pc := 61) (tgt := 65) E dX12_gives_61 (by decide) ?_
        cases hf
        exact z_zret E hr (by decide) dX12_gives_65
  have hf := kB_f hf c2
  by_cases c7 : (SM.2.1 11 (Int32.toNatClampNeg a1)) = 2
  · have hf := kB_t hf c7
    refine z_tswIn (pc := 6) (tgt := 66) (v := 2) (n := 2) (off := 60) E dX12_gives_6 c7 (by decide) (by decide) (by decide) (by decide) (by decide) ?_
    refine z_aload_n (pc := 66) (k0 := 0) E dX12_gives_66 rfl rfl ?_
    refine z_iload_n (pc := 67) (k0 := 2) E dX12_gives_67 rfl rfl ?_
    obtain ⟨r8, h9, hf⟩ := kC_e hf
    refine z_callV0 (pc := 68) (is := [0]) (n := 1) (As := [.int a2]) (st := []) (st' := [.int r8]) (C2 := [wM aM ct SM]) E (c_X12_isEarly (l := l) (G := G) (ct := ct) (aM := aM) h9) wv_X12_isEarly wd_15_21 ⟨Nat.le_of_ble_eq_true rfl, Nat.le_of_ble_eq_true rfl, Nat.le_of_ble_eq_true rfl, Nat.le_of_ble_eq_true rfl⟩ rfl rfl rfl (by decide) rfl rfl (zrM (j := 0) rfl) rfl (Nat.le_of_ble_eq_true rfl) dX12_gives_68 rfl rfl ?_
    refine z_if_eq (pc := 71) (tgt := 91) E dX12_gives_71 (by decide) (fun c10 => ?_) (fun c10 => ?_)
    · have hf := kB_t hf c10
      refine z_iconst (pc := 91) (v := 0) E dX12_gives_91 (by decide) ?_
      cases hf
      exact z_zret E hr (by decide) dX12_gives_92
    · have hf := kB_f hf c10
      refine z_aload_n (pc := 74) (k0 := 0) E dX12_gives_74 rfl rfl ?_
      refine gM_6 (pc := 75) (i := 0) E rfl wd_4_1 dX12_gives_75 ?_
      refine z_aload_n (pc := 78) (k0 := 0) E dX12_gives_78 rfl rfl ?_
      refine gM_12 (pc := 79) (i := 0) E rfl wd_4_7 dX12_gives_79 ?_
      refine z_iload_n (pc := 82) (k0 := 1) E dX12_gives_82 rfl rfl ?_
      obtain ⟨c11, hf⟩ := kO_e hf
      refine lM_12 (pc := 83) (i := 0) E rfl c11 dX12_gives_83 ?_
      refine z_icmp_ge (pc := 84) (tgt := 91) E dX12_gives_84 (by decide) (fun c12 => ?_) (fun c12 => ?_)
      · have hf := kB_t hf c12
        refine z_iconst (pc := 91) (v := 0) E dX12_gives_91 (by decide) ?_
        cases hf
        exact z_zret E hr (by decide) dX12_gives_92
      · have hf := kB_f hf c12
        refine z_iconst (pc := 87) (v := 1) E dX12_gives_87 (by decide) ?_
        refine z_goto (pc := 88) (tgt := 92) E dX12_gives_88 (by decide) ?_
        cases hf
        exact z_zret E hr (by decide) dX12_gives_92
  have hf := kB_f hf c7
  by_cases c13 : (SM.2.1 11 (Int32.toNatClampNeg a1)) = 3
  · have hf := kB_t hf c13
    refine z_tswIn (pc := 6) (tgt := 93) (v := 3) (n := 3) (off := 87) E dX12_gives_6 c13 (by decide) (by decide) (by decide) (by decide) (by decide) ?_
    refine z_aload_n (pc := 93) (k0 := 0) E dX12_gives_93 rfl rfl ?_
    refine gM_8 (pc := 94) (i := 0) E rfl wd_4_3 dX12_gives_94 ?_
    refine z_iload_n (pc := 97) (k0 := 2) E dX12_gives_97 rfl rfl ?_
    obtain ⟨c14, hf⟩ := kO_e hf
    refine lM_8 (pc := 98) (i := 0) E rfl c14 dX12_gives_98 ?_
    refine z_aload_n (pc := 99) (k0 := 0) E dX12_gives_99 rfl rfl ?_
    refine gM_12 (pc := 100) (i := 0) E rfl wd_4_7 dX12_gives_100 ?_
    refine z_iload_n (pc := 103) (k0 := 1) E dX12_gives_103 rfl rfl ?_
    obtain ⟨c15, hf⟩ := kO_e hf
    refine lM_12 (pc := 104) (i := 0) E rfl c15 dX12_gives_104 ?_
    refine z_icmp_gt (pc := 105) (tgt := 112) E dX12_gives_105 (by decide) (fun c16 => ?_) (fun c16 => ?_)
    · have hf := kB_t hf c16
      refine z_iconst (pc := 112) (v := 0) E dX12_gives_112 (by decide) ?_
      cases hf
      exact z_zret E hr (by decide) dX12_gives_113
    · have hf := kB_f hf c16
      refine z_iconst (pc := 108) (v := 1) E dX12_gives_108 (by decide) ?_
      refine z_goto (pc := 109) (tgt := 113) E dX12_gives_109 (by decide) ?_
      cases hf
      exact z_zret E hr (by decide) dX12_gives_113
  have hf := kB_f hf c13
  by_cases c17 : (SM.2.1 11 (Int32.toNatClampNeg a1)) = 4
  · have hf := kB_t hf c17
    refine z_tswIn (pc := 6) (tgt := 114) (v := 4) (n := 4) (off := 108) E dX12_gives_6 c17 (by decide) (by decide) (by decide) (by decide) (by decide) ?_
    refine z_aload_n (pc := 114) (k0 := 0) E dX12_gives_114 rfl rfl ?_
    refine z_iload_n (pc := 115) (k0 := 2) E dX12_gives_115 rfl rfl ?_
    obtain ⟨r18, h19, hf⟩ := kC_e hf
    refine z_callV0 (pc := 116) (is := [0]) (n := 1) (As := [.int a2]) (st := []) (st' := [.int r18]) (C2 := [wM aM ct SM]) E (c_X12_isEarly (l := l) (G := G) (ct := ct) (aM := aM) h19) wv_X12_isEarly wd_15_21 ⟨Nat.le_of_ble_eq_true rfl, Nat.le_of_ble_eq_true rfl, Nat.le_of_ble_eq_true rfl, Nat.le_of_ble_eq_true rfl⟩ rfl rfl rfl (by decide) rfl rfl (zrM (j := 0) rfl) rfl (Nat.le_of_ble_eq_true rfl) dX12_gives_116 rfl rfl ?_
    refine z_if_ne (pc := 119) (tgt := 141) E dX12_gives_119 (by decide) (fun c20 => ?_) (fun c20 => ?_)
    · have hf := kB_f hf c20
      refine z_iconst (pc := 141) (v := 1) E dX12_gives_141 (by decide) ?_
      refine z_goto (pc := 142) (tgt := 146) E dX12_gives_142 (by decide) ?_
      cases hf
      exact z_zret E hr (by decide) dX12_gives_146
    · have hf := kB_t hf c20
      refine z_aload_n (pc := 122) (k0 := 0) E dX12_gives_122 rfl rfl ?_
      refine gM_5 (pc := 123) (i := 0) E rfl wd_4_0 dX12_gives_123 ?_
      refine z_iconst (pc := 126) (v := 1) E dX12_gives_126 (by decide) ?_
      refine z_icmp_gt (pc := 127) (tgt := 141) E dX12_gives_127 (by decide) (fun c21 => ?_) (fun c21 => ?_)
      · have hf := kB_t hf c21
        refine z_iconst (pc := 141) (v := 1) E dX12_gives_141 (by decide) ?_
        refine z_goto (pc := 142) (tgt := 146) E dX12_gives_142 (by decide) ?_
        cases hf
        exact z_zret E hr (by decide) dX12_gives_146
      · have hf := kB_f hf c21
        refine z_aload_n (pc := 130) (k0 := 0) E dX12_gives_130 rfl rfl ?_
        refine gM_9 (pc := 131) (i := 0) E rfl wd_4_4 dX12_gives_131 ?_
        refine z_iload_n (pc := 134) (k0 := 2) E dX12_gives_134 rfl rfl ?_
        obtain ⟨c22, hf⟩ := kO_e hf
        refine lM_9 (pc := 135) (i := 0) E rfl c22 dX12_gives_135 ?_
        refine z_bipush (pc := 136) (v := 6) E dX12_gives_136 (by decide) ?_
        refine z_icmp_le (pc := 138) (tgt := 145) E dX12_gives_138 (by decide) (fun c23 => ?_) (fun c23 => ?_)
        · have hf := kB_t hf c23
          refine z_iconst (pc := 145) (v := 0) E dX12_gives_145 (by decide) ?_
          cases hf
          exact z_zret E hr (by decide) dX12_gives_146
        · have hf := kB_f hf c23
          refine z_iconst (pc := 141) (v := 1) E dX12_gives_141 (by decide) ?_
          refine z_goto (pc := 142) (tgt := 146) E dX12_gives_142 (by decide) ?_
          cases hf
          exact z_zret E hr (by decide) dX12_gives_146
  have hf := kB_f hf c17
  by_cases c24 : (SM.2.1 11 (Int32.toNatClampNeg a1)) = 5
  · have hf := kB_t hf c24
    refine z_tswIn (pc := 6) (tgt := 147) (v := 5) (n := 5) (off := 141) E dX12_gives_6 c24 (by decide) (by decide) (by decide) (by decide) (by decide) ?_
    refine z_aload_n (pc := 147) (k0 := 0) E dX12_gives_147 rfl rfl ?_
    refine z_iload_n (pc := 148) (k0 := 2) E dX12_gives_148 rfl rfl ?_
    obtain ⟨r25, h26, hf⟩ := kC_e hf
    refine z_callV0 (pc := 149) (is := [0]) (n := 1) (As := [.int a2]) (st := []) (st' := [.int r25]) (C2 := [wM aM ct SM]) E (c_X12_isEarly (l := l) (G := G) (ct := ct) (aM := aM) h26) wv_X12_isEarly wd_15_21 ⟨Nat.le_of_ble_eq_true rfl, Nat.le_of_ble_eq_true rfl, Nat.le_of_ble_eq_true rfl, Nat.le_of_ble_eq_true rfl⟩ rfl rfl rfl (by decide) rfl rfl (zrM (j := 0) rfl) rfl (Nat.le_of_ble_eq_true rfl) dX12_gives_149 rfl rfl ?_
    refine z_if_eq (pc := 152) (tgt := 189) E dX12_gives_152 (by decide) (fun c27 => ?_) (fun c27 => ?_)
    · have hf := kB_t hf c27
      refine z_iconst (pc := 189) (v := 0) E dX12_gives_189 (by decide) ?_
      cases hf
      exact z_zret E hr (by decide) dX12_gives_190
    · have hf := kB_f hf c27
      refine z_aload_n (pc := 155) (k0 := 0) E dX12_gives_155 rfl rfl ?_
      refine gM_6 (pc := 156) (i := 0) E rfl wd_4_1 dX12_gives_156 ?_
      refine z_aload_n (pc := 159) (k0 := 0) E dX12_gives_159 rfl rfl ?_
      refine gM_12 (pc := 160) (i := 0) E rfl wd_4_7 dX12_gives_160 ?_
      refine z_iload_n (pc := 163) (k0 := 1) E dX12_gives_163 rfl rfl ?_
      obtain ⟨c28, hf⟩ := kO_e hf
      refine lM_12 (pc := 164) (i := 0) E rfl c28 dX12_gives_164 ?_
      refine z_icmp_ge (pc := 165) (tgt := 189) E dX12_gives_165 (by decide) (fun c29 => ?_) (fun c29 => ?_)
      · have hf := kB_t hf c29
        refine z_iconst (pc := 189) (v := 0) E dX12_gives_189 (by decide) ?_
        cases hf
        exact z_zret E hr (by decide) dX12_gives_190
      · have hf := kB_f hf c29
        refine z_aload_n (pc := 168) (k0 := 0) E dX12_gives_168 rfl rfl ?_
        refine gM_10 (pc := 169) (i := 0) E rfl wd_4_5 dX12_gives_169 ?_
        refine z_iload_n (pc := 172) (k0 := 2) E dX12_gives_172 rfl rfl ?_
        obtain ⟨c30, hf⟩ := kO_e hf
        refine lM_10 (pc := 173) (i := 0) E rfl c30 dX12_gives_173 ?_
        refine z_iconst (pc := 174) (v := 3) E dX12_gives_174 (by decide) ?_
        refine z_aload_n (pc := 175) (k0 := 0) E dX12_gives_175 rfl rfl ?_
        refine gM_12 (pc := 176) (i := 0) E rfl wd_4_7 dX12_gives_176 ?_
        refine z_iload_n (pc := 179) (k0 := 1) E dX12_gives_179 rfl rfl ?_
        obtain ⟨c31, hf⟩ := kO_e hf
        refine lM_12 (pc := 180) (i := 0) E rfl c31 dX12_gives_180 ?_
        obtain ⟨v32, e_v32, hf⟩ := kL_e hf
        refine z_imul (pc := 181) (v := v32) E dX12_gives_181 e_v32 ?_
        refine z_icmp_gt (pc := 182) (tgt := 189) E dX12_gives_182 (by decide) (fun c33 => ?_) (fun c33 => ?_)
        · have hf := kB_t hf c33
          refine z_iconst (pc := 189) (v := 0) E dX12_gives_189 (by decide) ?_
          cases hf
          exact z_zret E hr (by decide) dX12_gives_190
        · have hf := kB_f hf c33
          refine z_iconst (pc := 185) (v := 1) E dX12_gives_185 (by decide) ?_
          refine z_goto (pc := 186) (tgt := 190) E dX12_gives_186 (by decide) ?_
          cases hf
          exact z_zret E hr (by decide) dX12_gives_190
  have hf := kB_f hf c24
  by_cases c34 : (SM.2.1 11 (Int32.toNatClampNeg a1)) = 6
  · have hf := kB_t hf c34
    refine z_tswIn (pc := 6) (tgt := 191) (v := 6) (n := 6) (off := 185) E dX12_gives_6 c34 (by decide) (by decide) (by decide) (by decide) (by decide) ?_
    refine z_aload_n (pc := 191) (k0 := 0) E dX12_gives_191 rfl rfl ?_
    refine gM_8 (pc := 192) (i := 0) E rfl wd_4_3 dX12_gives_192 ?_
    refine z_iload_n (pc := 195) (k0 := 2) E dX12_gives_195 rfl rfl ?_
    obtain ⟨c35, hf⟩ := kO_e hf
    refine lM_8 (pc := 196) (i := 0) E rfl c35 dX12_gives_196 ?_
    refine z_aload_n (pc := 197) (k0 := 0) E dX12_gives_197 rfl rfl ?_
    refine gM_12 (pc := 198) (i := 0) E rfl wd_4_7 dX12_gives_198 ?_
    refine z_iload_n (pc := 201) (k0 := 1) E dX12_gives_201 rfl rfl ?_
    obtain ⟨c36, hf⟩ := kO_e hf
    refine lM_12 (pc := 202) (i := 0) E rfl c36 dX12_gives_202 ?_
    refine z_icmp_gt (pc := 203) (tgt := 229) E dX12_gives_203 (by decide) (fun c37 => ?_) (fun c37 => ?_)
    · have hf := kB_t hf c37
      refine z_iconst (pc := 229) (v := 0) E dX12_gives_229 (by decide) ?_
      cases hf
      exact z_zret E hr (by decide) dX12_gives_230
    · have hf := kB_f hf c37
      refine z_aload_n (pc := 206) (k0 := 0) E dX12_gives_206 rfl rfl ?_
      refine gM_13 (pc := 207) (i := 0) E rfl wd_4_8 dX12_gives_207 ?_
      refine z_iconst (pc := 210) (v := 4) E dX12_gives_210 (by decide) ?_
      refine z_iload_n (pc := 211) (k0 := 1) E dX12_gives_211 rfl rfl ?_
      obtain ⟨v38, e_v38, hf⟩ := kL_e hf
      refine z_imul (pc := 212) (v := v38) E dX12_gives_212 e_v38 ?_
      refine z_aload_n (pc := 213) (k0 := 0) E dX12_gives_213 rfl rfl ?_
      refine gM_2 (pc := 214) (i := 0) E rfl wd_3_21 dX12_gives_214 ?_
      refine z_iconst (pc := 217) (v := 4) E dX12_gives_217 (by decide) ?_
      obtain ⟨v39, e_v39, hf⟩ := kL_e hf
      refine z_irem (pc := 218) (v := v39) E dX12_gives_218 (by decide) e_v39 ?_
      obtain ⟨v40, e_v40, hf⟩ := kL_e hf
      refine z_iadd (pc := 219) (v := v40) E dX12_gives_219 e_v40 ?_
      obtain ⟨c41, hf⟩ := kO_e hf
      refine lM_13 (pc := 220) (i := 0) E rfl c41 dX12_gives_220 ?_
      refine z_iconst (pc := 221) (v := 1) E dX12_gives_221 (by decide) ?_
      refine z_icmp_ne (pc := 222) (tgt := 229) E dX12_gives_222 (by decide) (fun c42 => ?_) (fun c42 => ?_)
      · have hf := kB_f hf c42
        refine z_iconst (pc := 229) (v := 0) E dX12_gives_229 (by decide) ?_
        cases hf
        exact z_zret E hr (by decide) dX12_gives_230
      · have hf := kB_t hf c42
        refine z_iconst (pc := 225) (v := 1) E dX12_gives_225 (by decide) ?_
        refine z_goto (pc := 226) (tgt := 230) E dX12_gives_226 (by decide) ?_
        cases hf
        exact z_zret E hr (by decide) dX12_gives_230
  have hf := kB_f hf c34
  refine z_tswOut (pc := 6) (tgt := 231) E dX12_gives_6 (by have n_c2 := lv_neT c2 (a := 1) (by decide); have n_c7 := lv_neT c7 (a := 2) (by decide); have n_c13 := lv_neT c13 (a := 3) (by decide); have n_c17 := lv_neT c17 (a := 4) (by decide); have n_c24 := lv_neT c24 (a := 5) (by decide); have n_c34 := lv_neT c34 (a := 6) (by decide); omega) (by decide) ?_
  refine z_aload_n (pc := 231) (k0 := 0) E dX12_gives_231 rfl rfl ?_
  refine z_iload_n (pc := 232) (k0 := 2) E dX12_gives_232 rfl rfl ?_
  obtain ⟨r43, h44, hf⟩ := kC_e hf
  refine z_callV0 (pc := 233) (is := [0]) (n := 1) (As := [.int a2]) (st := []) (st' := [.int r43]) (C2 := [wM aM ct SM]) E (c_X12_isEarly (l := l) (G := G) (ct := ct) (aM := aM) h44) wv_X12_isEarly wd_15_21 ⟨Nat.le_of_ble_eq_true rfl, Nat.le_of_ble_eq_true rfl, Nat.le_of_ble_eq_true rfl, Nat.le_of_ble_eq_true rfl⟩ rfl rfl rfl (by decide) rfl rfl (zrM (j := 0) rfl) rfl (Nat.le_of_ble_eq_true rfl) dX12_gives_233 rfl rfl ?_
  obtain ⟨c45, hf⟩ := kO_e hf
  cases hf
  exact z_zret E hr c45 dX12_gives_236
noncomputable def f_X12_of_b19 (N : Nat) (SM : zMS) (x1 : Int32) (x2 : Int32) : Option (Int32 × zMS) := kB (x2 = 0) (kO (¬ (x1 < 0 ∨ 4 ≤ Int32.toNatClampNeg x1)) (some ((SM.2.1 11 (Int32.toNatClampNeg x1)), SM))) (kO (¬ (x1 < 0 ∨ 4 ≤ Int32.toNatClampNeg x1)) (some ((SM.2.1 12 (Int32.toNatClampNeg x1)), SM)))
noncomputable def f_X12_of (N : Nat) (SM : zMS) (a1 : Int32) (a2 : Int32) : Option (Int32 × zMS) := kC (f_X12_isParent SM a1) (fun r1 => kB (r1 = 0) (some ((-1), SM)) (kB (a2 = 0) (f_X12_of_b19 N SM a1 a2) (kB (a2 = 1) (f_X12_of_b19 N SM a1 a2) (kL (a2 - a2 / 10 * 10) (fun v6 => kC (f_X12_in SM a2 10 39) (fun r7 => kB (r7 = 0) (some ((-1), SM)) (kC (f_X12_isThing SM v6) (fun r10 => kB (r10 = 0) (some ((-1), SM)) (kB (20 ≤ a2) (kB (30 ≤ a2) (kD (f_X12_sumOf N SM 1 a1 v6 2) (fun r15 SM_16 => some (r15, SM_16))) (kD (f_X12_sumOf N SM 0 a1 v6 4) (fun r18 SM_19 => some (r18, SM_19)))) (kC (f_X12_gives N SM a1 v6) (fun r21 => kB (r21 = 0) (some (0, SM)) (some (1, SM)))))))))))))
theorem wv_X12_of : zWV RX12 yX12_of cX12_of 4 (some .int) 2 := ⟨wd_15_10, wd_15_11, wd_1_5, wd_15_12, by decide +kernel⟩
def rm_X12_of : Room := { frames := 5, cells := 0, slots := 0, locals := 107 }
set_option maxHeartbeats 4000000 in
set_option maxRecDepth 100000 in
theorem c_X12_of {l : Launch} {G : va_G} {ct : Nat → ClassId} {aM : Nat → Nat} {N : Nat} {SM : zMS} {a1 : Int32} {a2 : Int32} {r0 : Int32} {OM : zMS} (hf : f_X12_of N SM a1 a2 = some (r0, OM)) : zC l yX12_of cX12_of 4 (some .int) rm_X12_of G ct [.ref (aM 200), .int a1, .int a2] [wM aM ct SM] [wM aM ct OM] (some (.int r0)) 0 0 := by
  refine z_enter (own := RX12) (lv := [(0, .ref (aM 200)), (1, .int a1), (2, .int a2)]) (by decide) rfl (Nat.le_of_ble_eq_true rfl) rfl ?_
  intro p e s m args below meth c A E hr hnm
  have B19 : ∀ (SM : zMS) (x1 : Int32) (x2 : Int32), f_X12_of_b19 N SM x1 x2 = some (r0, OM) → zJ p l e rm_X12_of s m args below meth c (zQ G ct (some (.int r0)) [wM aM ct OM] A below args s 0 0) A G 4 0 0 [wM aM ct SM] [(0, .ref (aM 200)), (1, .int x1), (2, .int x2)] 19 [] := by
    intro SM x1 x2 hf
    unfold f_X12_of_b19 at hf
    refine z_iload_n (pc := 19) (k0 := 2) E dX12_of_19 rfl rfl ?_
    refine z_if_ne (pc := 20) (tgt := 32) E dX12_of_20 (by decide) (fun c24 => ?_) (fun c24 => ?_)
    · have hf := kB_f hf c24
      refine z_aload_n (pc := 32) (k0 := 0) E dX12_of_32 rfl rfl ?_
      refine gM_12 (pc := 33) (i := 0) E rfl wd_4_7 dX12_of_33 ?_
      refine z_iload_n (pc := 36) (k0 := 1) E dX12_of_36 rfl rfl ?_
      obtain ⟨c25, hf⟩ := kO_e hf
      refine lM_12 (pc := 37) (i := 0) E rfl c25 dX12_of_37 ?_
      cases hf
      exact z_iret E hr dX12_of_38
    · have hf := kB_t hf c24
      refine z_aload_n (pc := 23) (k0 := 0) E dX12_of_23 rfl rfl ?_
      refine gM_11 (pc := 24) (i := 0) E rfl wd_4_6 dX12_of_24 ?_
      refine z_iload_n (pc := 27) (k0 := 1) E dX12_of_27 rfl rfl ?_
      obtain ⟨c26, hf⟩ := kO_e hf
      refine lM_11 (pc := 28) (i := 0) E rfl c26 dX12_of_28 ?_
      refine z_goto (pc := 29) (tgt := 38) E dX12_of_29 (by decide) ?_
      cases hf
      exact z_iret E hr dX12_of_38
  unfold f_X12_of at hf
  refine z_aload_n (pc := 0) (k0 := 0) E dX12_of_0 rfl rfl ?_
  refine z_iload_n (pc := 1) (k0 := 1) E dX12_of_1 rfl rfl ?_
  obtain ⟨r1, h2, hf⟩ := kC_e hf
  refine z_callV0 (pc := 2) (is := [0]) (n := 1) (As := [.int a1]) (st := []) (st' := [.int r1]) (C2 := [wM aM ct SM]) E (c_X12_isParent (l := l) (G := G) (ct := ct) (aM := aM) h2) wv_X12_isParent wd_15_13 ⟨Nat.le_of_ble_eq_true rfl, Nat.le_of_ble_eq_true rfl, Nat.le_of_ble_eq_true rfl, Nat.le_of_ble_eq_true rfl⟩ rfl rfl rfl (by decide) rfl rfl (zrM (j := 0) rfl) rfl (Nat.le_of_ble_eq_true rfl) dX12_of_2 rfl rfl ?_
  refine z_if_ne (pc := 5) (tgt := 10) E dX12_of_5 (by decide) (fun c3 => ?_) (fun c3 => ?_)
  · have hf := kB_f hf c3
    refine z_iload_n (pc := 10) (k0 := 2) E dX12_of_10 rfl rfl ?_
    refine z_if_eq (pc := 11) (tgt := 19) E dX12_of_11 (by decide) (fun c4 => ?_) (fun c4 => ?_)
    · have hf := kB_t hf c4
      exact B19 SM a1 a2 hf
    · have hf := kB_f hf c4
      refine z_iload_n (pc := 14) (k0 := 2) E dX12_of_14 rfl rfl ?_
      refine z_iconst (pc := 15) (v := 1) E dX12_of_15 (by decide) ?_
      refine z_icmp_ne (pc := 16) (tgt := 39) E dX12_of_16 (by decide) (fun c5 => ?_) (fun c5 => ?_)
      · have hf := kB_f hf c5
        refine z_iload_n (pc := 39) (k0 := 2) E dX12_of_39 rfl rfl ?_
        refine z_bipush (pc := 40) (v := 10) E dX12_of_40 (by decide) ?_
        obtain ⟨v6, e_v6, hf⟩ := kL_e hf
        refine z_irem (pc := 42) (v := v6) E dX12_of_42 (by decide) e_v6 ?_
        refine z_istore_n (pc := 43) (lv' := [(3, .int v6), (0, .ref (aM 200)), (1, .int a1), (2, .int a2)]) E dX12_of_43 rfl (by decide) rfl ?_
        refine z_aload_n (pc := 44) (k0 := 1) E dX12_of_44 rfl rfl ?_
        refine z_iload_n (pc := 45) (k0 := 3) E dX12_of_45 rfl rfl ?_
        refine z_bipush (pc := 46) (v := 10) E dX12_of_46 (by decide) ?_
        refine z_bipush (pc := 48) (v := 39) E dX12_of_48 (by decide) ?_
        obtain ⟨r7, h8, hf⟩ := kC_e hf
        refine z_callV0 (pc := 50) (is := [0]) (n := 3) (As := [.int a2, .int 10, .int 39]) (st := []) (st' := [.int r7]) (C2 := [wM aM ct SM]) E (c_X12_in (l := l) (G := G) (ct := ct) (aM := aM) h8) wv_X12_in wd_7_11 ⟨Nat.le_of_ble_eq_true rfl, Nat.le_of_ble_eq_true rfl, Nat.le_of_ble_eq_true rfl, Nat.le_of_ble_eq_true rfl⟩ rfl rfl rfl (by decide) rfl rfl (zrM (j := 0) rfl) rfl (Nat.le_of_ble_eq_true rfl) dX12_of_50 rfl rfl ?_
        refine z_if_eq (pc := 53) (tgt := 64) E dX12_of_53 (by decide) (fun c9 => ?_) (fun c9 => ?_)
        · have hf := kB_t hf c9
          refine z_iconst (pc := 64) (v := (-1)) E dX12_of_64 (by decide) ?_
          cases hf
          exact z_iret E hr dX12_of_65
        · have hf := kB_f hf c9
          refine z_aload_n (pc := 56) (k0 := 1) E dX12_of_56 rfl rfl ?_
          refine z_iload_n (pc := 57) (k0 := 0) E dX12_of_57 rfl rfl ?_
          obtain ⟨r10, h11, hf⟩ := kC_e hf
          refine z_callV0 (pc := 58) (is := [0]) (n := 1) (As := [.int v6]) (st := []) (st' := [.int r10]) (C2 := [wM aM ct SM]) E (c_X12_isThing (l := l) (G := G) (ct := ct) (aM := aM) h11) wv_X12_isThing wd_11_0 ⟨Nat.le_of_ble_eq_true rfl, Nat.le_of_ble_eq_true rfl, Nat.le_of_ble_eq_true rfl, Nat.le_of_ble_eq_true rfl⟩ rfl rfl rfl (by decide) rfl rfl (zrM (j := 0) rfl) rfl (Nat.le_of_ble_eq_true rfl) dX12_of_58 rfl rfl ?_
          refine z_if_ne (pc := 61) (tgt := 66) E dX12_of_61 (by decide) (fun c12 => ?_) (fun c12 => ?_)
          · have hf := kB_f hf c12
            refine z_iload_n (pc := 66) (k0 := 3) E dX12_of_66 rfl rfl ?_
            refine z_bipush (pc := 67) (v := 20) E dX12_of_67 (by decide) ?_
            refine z_icmp_ge (pc := 69) (tgt := 89) E dX12_of_69 (by decide) (fun c13 => ?_) (fun c13 => ?_)
            · have hf := kB_t hf c13
              refine z_iload_n (pc := 89) (k0 := 3) E dX12_of_89 rfl rfl ?_
              refine z_bipush (pc := 90) (v := 30) E dX12_of_90 (by decide) ?_
              refine z_icmp_ge (pc := 92) (tgt := 106) E dX12_of_92 (by decide) (fun c14 => ?_) (fun c14 => ?_)
              · have hf := kB_t hf c14
                refine z_aload_n (pc := 106) (k0 := 1) E dX12_of_106 rfl rfl ?_
                refine z_iconst (pc := 107) (v := 1) E dX12_of_107 (by decide) ?_
                refine z_iload_n (pc := 108) (k0 := 2) E dX12_of_108 rfl rfl ?_
                refine z_iload_n (pc := 109) (k0 := 0) E dX12_of_109 rfl rfl ?_
                refine z_iconst (pc := 110) (v := 2) E dX12_of_110 (by decide) ?_
                obtain ⟨r15, SM_16, h17, hf⟩ := kD_e hf
                refine z_callV0 (pc := 111) (is := [0]) (n := 4) (As := [.int 1, .int a1, .int v6, .int 2]) (st := []) (st' := [.int r15]) (C2 := [wM aM ct SM_16]) E (c_X12_sumOf (l := l) (G := G) (ct := ct) (aM := aM) h17) wv_X12_sumOf wd_16_17 ⟨Nat.le_of_ble_eq_true rfl, Nat.le_of_ble_eq_true rfl, Nat.le_of_ble_eq_true rfl, Nat.le_of_ble_eq_true rfl⟩ rfl rfl rfl (by decide) rfl rfl (zrM (j := 0) rfl) rfl (Nat.le_of_ble_eq_true rfl) dX12_of_111 rfl rfl ?_
                cases hf
                exact z_iret E hr dX12_of_114
              · have hf := kB_f hf c14
                refine z_aload_n (pc := 95) (k0 := 1) E dX12_of_95 rfl rfl ?_
                refine z_iconst (pc := 96) (v := 0) E dX12_of_96 (by decide) ?_
                refine z_iload_n (pc := 97) (k0 := 2) E dX12_of_97 rfl rfl ?_
                refine z_iload_n (pc := 98) (k0 := 0) E dX12_of_98 rfl rfl ?_
                refine z_iconst (pc := 99) (v := 4) E dX12_of_99 (by decide) ?_
                obtain ⟨r18, SM_19, h20, hf⟩ := kD_e hf
                refine z_callV0 (pc := 100) (is := [0]) (n := 4) (As := [.int 0, .int a1, .int v6, .int 4]) (st := []) (st' := [.int r18]) (C2 := [wM aM ct SM_19]) E (c_X12_sumOf (l := l) (G := G) (ct := ct) (aM := aM) h20) wv_X12_sumOf wd_16_17 ⟨Nat.le_of_ble_eq_true rfl, Nat.le_of_ble_eq_true rfl, Nat.le_of_ble_eq_true rfl, Nat.le_of_ble_eq_true rfl⟩ rfl rfl rfl (by decide) rfl rfl (zrM (j := 0) rfl) rfl (Nat.le_of_ble_eq_true rfl) dX12_of_100 rfl rfl ?_
                refine z_goto (pc := 103) (tgt := 114) E dX12_of_103 (by decide) ?_
                cases hf
                exact z_iret E hr dX12_of_114
            · have hf := kB_f hf c13
              refine z_aload_n (pc := 72) (k0 := 1) E dX12_of_72 rfl rfl ?_
              refine z_iload_n (pc := 73) (k0 := 2) E dX12_of_73 rfl rfl ?_
              refine z_iload_n (pc := 74) (k0 := 0) E dX12_of_74 rfl rfl ?_
              obtain ⟨r21, h22, hf⟩ := kC_e hf
              refine z_callV0 (pc := 75) (is := [0]) (n := 2) (As := [.int a1, .int v6]) (st := []) (st' := [.int r21]) (C2 := [wM aM ct SM]) E (c_X12_gives (l := l) (G := G) (ct := ct) (aM := aM) h22) wv_X12_gives wd_15_17 ⟨Nat.le_of_ble_eq_true rfl, Nat.le_of_ble_eq_true rfl, Nat.le_of_ble_eq_true rfl, Nat.le_of_ble_eq_true rfl⟩ rfl rfl rfl (by decide) rfl rfl (zrM (j := 0) rfl) rfl (Nat.le_of_ble_eq_true rfl) dX12_of_75 rfl rfl ?_
              refine z_if_eq (pc := 78) (tgt := 85) E dX12_of_78 (by decide) (fun c23 => ?_) (fun c23 => ?_)
              · have hf := kB_t hf c23
                refine z_iconst (pc := 85) (v := 0) E dX12_of_85 (by decide) ?_
                refine z_goto (pc := 86) (tgt := 114) E dX12_of_86 (by decide) ?_
                cases hf
                exact z_iret E hr dX12_of_114
              · have hf := kB_f hf c23
                refine z_iconst (pc := 81) (v := 1) E dX12_of_81 (by decide) ?_
                refine z_goto (pc := 82) (tgt := 114) E dX12_of_82 (by decide) ?_
                cases hf
                exact z_iret E hr dX12_of_114
          · have hf := kB_t hf c12
            refine z_iconst (pc := 64) (v := (-1)) E dX12_of_64 (by decide) ?_
            cases hf
            exact z_iret E hr dX12_of_65
      · have hf := kB_t hf c5
        exact B19 SM a1 a2 hf
  · have hf := kB_t hf c3
    refine z_iconst (pc := 8) (v := (-1)) E dX12_of_8 (by decide) ?_
    cases hf
    exact z_iret E hr dX12_of_9
noncomputable def f_X12_told (N : Nat) (SM : zMS) (a1 : Int32) : Option Int32 := kB (a1 = 0) (some ((SM.1 2))) (kB (a1 = 1) (some ((SM.1 3))) (kB (a1 = 2) (some ((SM.1 4))) (kB (a1 = 3) (some ((SM.1 5))) (kB (a1 = 4) (some ((SM.1 6))) (kB (a1 = 5) (some ((SM.1 7))) (kB (a1 = 6) (kC (f_X12_late N SM) (fun r8 => some (r8))) (kB (a1 = 7) (kC (f_X12_deep N SM) (fun r11 => some (r11))) (kB (a1 = 8) (kC (f_X12_how N SM) (fun r14 => some (r14))) (some ((-1)))))))))))
theorem wv_X12_told : zWV RX12 yX12_told cX12_told 2 (some .int) 1 := ⟨wd_29_8, wd_29_9, wd_1_5, wd_29_10, by decide +kernel⟩
def rm_X12_told : Room := { frames := 4, cells := 0, slots := 0, locals := 84 }
set_option maxHeartbeats 4000000 in
set_option maxRecDepth 100000 in
theorem c_X12_told {l : Launch} {G : va_G} {ct : Nat → ClassId} {aM : Nat → Nat} {N : Nat} {SM : zMS} {a1 : Int32} {r0 : Int32} (hf : f_X12_told N SM a1 = some r0) : zC l yX12_told cX12_told 2 (some .int) rm_X12_told G ct [.ref (aM 200), .int a1] [wM aM ct SM] [wM aM ct SM] (some (.int r0)) 0 0 := by
  refine z_enter (own := RX12) (lv := [(0, .ref (aM 200)), (1, .int a1)]) (by decide) rfl (Nat.le_of_ble_eq_true rfl) rfl ?_
  intro p e s m args below meth c A E hr hnm
  unfold f_X12_told at hf
  refine z_iload_n (pc := 0) (k0 := 1) E dX12_told_0 rfl rfl ?_
  by_cases c1 : a1 = 0
  · have hf := kB_t hf c1
    refine z_tswIn (pc := 1) (tgt := 52) (v := 0) (n := 0) (off := 51) E dX12_told_1 c1 (by decide) (by decide) (by decide) (by decide) (by decide) ?_
    refine z_aload_n (pc := 52) (k0 := 0) E dX12_told_52 rfl rfl ?_
    refine gM_2 (pc := 53) (i := 0) E rfl wd_3_21 dX12_told_53 ?_
    cases hf
    exact z_iret E hr dX12_told_56
  have hf := kB_f hf c1
  by_cases c2 : a1 = 1
  · have hf := kB_t hf c2
    refine z_tswIn (pc := 1) (tgt := 57) (v := 1) (n := 1) (off := 56) E dX12_told_1 c2 (by decide) (by decide) (by decide) (by decide) (by decide) ?_
    refine z_aload_n (pc := 57) (k0 := 0) E dX12_told_57 rfl rfl ?_
    refine gM_3 (pc := 58) (i := 0) E rfl wd_3_22 dX12_told_58 ?_
    cases hf
    exact z_iret E hr dX12_told_61
  have hf := kB_f hf c2
  by_cases c3 : a1 = 2
  · have hf := kB_t hf c3
    refine z_tswIn (pc := 1) (tgt := 62) (v := 2) (n := 2) (off := 61) E dX12_told_1 c3 (by decide) (by decide) (by decide) (by decide) (by decide) ?_
    refine z_aload_n (pc := 62) (k0 := 0) E dX12_told_62 rfl rfl ?_
    refine gM_4 (pc := 63) (i := 0) E rfl wd_3_23 dX12_told_63 ?_
    cases hf
    exact z_iret E hr dX12_told_66
  have hf := kB_f hf c3
  by_cases c4 : a1 = 3
  · have hf := kB_t hf c4
    refine z_tswIn (pc := 1) (tgt := 67) (v := 3) (n := 3) (off := 66) E dX12_told_1 c4 (by decide) (by decide) (by decide) (by decide) (by decide) ?_
    refine z_aload_n (pc := 67) (k0 := 0) E dX12_told_67 rfl rfl ?_
    refine gM_5 (pc := 68) (i := 0) E rfl wd_4_0 dX12_told_68 ?_
    cases hf
    exact z_iret E hr dX12_told_71
  have hf := kB_f hf c4
  by_cases c5 : a1 = 4
  · have hf := kB_t hf c5
    refine z_tswIn (pc := 1) (tgt := 72) (v := 4) (n := 4) (off := 71) E dX12_told_1 c5 (by decide) (by decide) (by decide) (by decide) (by decide) ?_
    refine z_aload_n (pc := 72) (k0 := 0) E dX12_told_72 rfl rfl ?_
    refine gM_6 (pc := 73) (i := 0) E rfl wd_4_1 dX12_told_73 ?_
    cases hf
    exact z_iret E hr dX12_told_76
  have hf := kB_f hf c5
  by_cases c6 : a1 = 5
  · have hf := kB_t hf c6
    refine z_tswIn (pc := 1) (tgt := 77) (v := 5) (n := 5) (off := 76) E dX12_told_1 c6 (by decide) (by decide) (by decide) (by decide) (by decide) ?_
    refine z_aload_n (pc := 77) (k0 := 0) E dX12_told_77 rfl rfl ?_
    refine gM_7 (pc := 78) (i := 0) E rfl wd_4_2 dX12_told_78 ?_
    cases hf
    exact z_iret E hr dX12_told_81
  have hf := kB_f hf c6
  by_cases c7 : a1 = 6
  · have hf := kB_t hf c7
    refine z_tswIn (pc := 1) (tgt := 82) (v := 6) (n := 6) (off := 81) E dX12_told_1 c7 (by decide) (by decide) (by decide) (by decide) (by decide) ?_
    refine z_aload_n (pc := 82) (k0 := 0) E dX12_told_82 rfl rfl ?_
    obtain ⟨r8, h9, hf⟩ := kC_e hf
    refine z_callV0 (pc := 83) (is := [0]) (n := 0) (As := []) (st := []) (st' := [.int r8]) (C2 := [wM aM ct SM]) E (c_X12_late (l := l) (G := G) (ct := ct) (aM := aM) h9) wv_X12_late wd_16_1 ⟨Nat.le_of_ble_eq_true rfl, Nat.le_of_ble_eq_true rfl, Nat.le_of_ble_eq_true rfl, Nat.le_of_ble_eq_true rfl⟩ rfl rfl rfl (by decide) rfl rfl (zrM (j := 0) rfl) rfl (Nat.le_of_ble_eq_true rfl) dX12_told_83 rfl rfl ?_
    cases hf
    exact z_iret E hr dX12_told_86
  have hf := kB_f hf c7
  by_cases c10 : a1 = 7
  · have hf := kB_t hf c10
    refine z_tswIn (pc := 1) (tgt := 87) (v := 7) (n := 7) (off := 86) E dX12_told_1 c10 (by decide) (by decide) (by decide) (by decide) (by decide) ?_
    refine z_aload_n (pc := 87) (k0 := 0) E dX12_told_87 rfl rfl ?_
    obtain ⟨r11, h12, hf⟩ := kC_e hf
    refine z_callV0 (pc := 88) (is := [0]) (n := 0) (As := []) (st := []) (st' := [.int r11]) (C2 := [wM aM ct SM]) E (c_X12_deep (l := l) (G := G) (ct := ct) (aM := aM) h12) wv_X12_deep wd_29_11 ⟨Nat.le_of_ble_eq_true rfl, Nat.le_of_ble_eq_true rfl, Nat.le_of_ble_eq_true rfl, Nat.le_of_ble_eq_true rfl⟩ rfl rfl rfl (by decide) rfl rfl (zrM (j := 0) rfl) rfl (Nat.le_of_ble_eq_true rfl) dX12_told_88 rfl rfl ?_
    cases hf
    exact z_iret E hr dX12_told_91
  have hf := kB_f hf c10
  by_cases c13 : a1 = 8
  · have hf := kB_t hf c13
    refine z_tswIn (pc := 1) (tgt := 92) (v := 8) (n := 8) (off := 91) E dX12_told_1 c13 (by decide) (by decide) (by decide) (by decide) (by decide) ?_
    refine z_aload_n (pc := 92) (k0 := 0) E dX12_told_92 rfl rfl ?_
    obtain ⟨r14, h15, hf⟩ := kC_e hf
    refine z_callV0 (pc := 93) (is := [0]) (n := 0) (As := []) (st := []) (st' := [.int r14]) (C2 := [wM aM ct SM]) E (c_X12_how (l := l) (G := G) (ct := ct) (aM := aM) h15) wv_X12_how wd_29_15 ⟨Nat.le_of_ble_eq_true rfl, Nat.le_of_ble_eq_true rfl, Nat.le_of_ble_eq_true rfl, Nat.le_of_ble_eq_true rfl⟩ rfl rfl rfl (by decide) rfl rfl (zrM (j := 0) rfl) rfl (Nat.le_of_ble_eq_true rfl) dX12_told_93 rfl rfl ?_
    cases hf
    exact z_iret E hr dX12_told_96
  have hf := kB_f hf c13
  refine z_tswOut (pc := 1) (tgt := 97) E dX12_told_1 (by have n_c1 := lv_neT c1 (a := 0) (by decide); have n_c2 := lv_neT c2 (a := 1) (by decide); have n_c3 := lv_neT c3 (a := 2) (by decide); have n_c4 := lv_neT c4 (a := 3) (by decide); have n_c5 := lv_neT c5 (a := 4) (by decide); have n_c6 := lv_neT c6 (a := 5) (by decide); have n_c7 := lv_neT c7 (a := 6) (by decide); have n_c10 := lv_neT c10 (a := 7) (by decide); have n_c13 := lv_neT c13 (a := 8) (by decide); omega) (by decide) ?_
  refine z_iconst (pc := 97) (v := (-1)) E dX12_told_97 (by decide) ?_
  cases hf
  exact z_iret E hr dX12_told_98
noncomputable def f_X12_nextOf (SM : zMS) (a1 : Int32) : Option Int32 := kL (a1 + 1) (fun v1 => kB ((SM.1 0) ≤ v1) (some (0)) (kL (a1 + 1) (fun v3 => some (v3))))
theorem wv_X12_nextOf : zWV RX12 yX12_nextOf cX12_nextOf 2 (some .int) 1 := ⟨wd_30_21, wd_30_22, wd_1_5, wd_30_23, by decide +kernel⟩
def rm_X12_nextOf : Room := { frames := 0, cells := 0, slots := 0, locals := 0 }
set_option maxHeartbeats 4000000 in
set_option maxRecDepth 100000 in
theorem c_X12_nextOf {l : Launch} {G : va_G} {ct : Nat → ClassId} {aM : Nat → Nat} {SM : zMS} {a1 : Int32} {r0 : Int32} (hf : f_X12_nextOf SM a1 = some r0) : zC l yX12_nextOf cX12_nextOf 2 (some .int) rm_X12_nextOf G ct [.ref (aM 200), .int a1] [wM aM ct SM] [wM aM ct SM] (some (.int r0)) 0 0 := by
  refine z_enter (own := RX12) (lv := [(0, .ref (aM 200)), (1, .int a1)]) (by decide) rfl (Nat.le_of_ble_eq_true rfl) rfl ?_
  intro p e s m args below meth c A E hr hnm
  unfold f_X12_nextOf at hf
  refine z_iload_n (pc := 0) (k0 := 1) E dX12_nextOf_0 rfl rfl ?_
  refine z_iconst (pc := 1) (v := 1) E dX12_nextOf_1 (by decide) ?_
  obtain ⟨v1, e_v1, hf⟩ := kL_e hf
  refine z_iadd (pc := 2) (v := v1) E dX12_nextOf_2 e_v1 ?_
  refine z_aload_n (pc := 3) (k0 := 0) E dX12_nextOf_3 rfl rfl ?_
  refine gM_0 (pc := 4) (i := 0) E rfl wd_3_19 dX12_nextOf_4 ?_
  refine z_icmp_ge (pc := 7) (tgt := 16) E dX12_nextOf_7 (by decide) (fun c2 => ?_) (fun c2 => ?_)
  · have hf := kB_t hf c2
    refine z_iconst (pc := 16) (v := 0) E dX12_nextOf_16 (by decide) ?_
    cases hf
    exact z_iret E hr dX12_nextOf_17
  · have hf := kB_f hf c2
    refine z_iload_n (pc := 10) (k0 := 1) E dX12_nextOf_10 rfl rfl ?_
    refine z_iconst (pc := 11) (v := 1) E dX12_nextOf_11 (by decide) ?_
    obtain ⟨v3, e_v3, hf⟩ := kL_e hf
    refine z_iadd (pc := 12) (v := v3) E dX12_nextOf_12 e_v3 ?_
    refine z_goto (pc := 13) (tgt := 17) E dX12_nextOf_13 (by decide) ?_
    cases hf
    exact z_iret E hr dX12_nextOf_17
noncomputable def f_X12_asks_b157 (N : Nat) (SM : zMS) (y0 : Int32) : Option (Int32 × zMS) := kL (mSI SM 4 y0) (fun SM_35 => kL ((SM_35.1 3) + 1) (fun v36 => kL (mSI SM_35 3 v36) (fun SM_37 => kL ((SM_37.1 5) + 1) (fun v38 => kL (mSI SM_37 5 v38) (fun SM_39 => some (0, SM_39))))))
noncomputable def f_X12_asks_b133 (N : Nat) (SM : zMS) (x1 : Int32) (x2 : Int32) : Option (Int32 × zMS) := kD (f_X12_sumOf N SM 1 x1 x2 2) (fun r23 SM_24 => kL ((SM.1 4) - r23) (fun v26 => kB (0 ≤ v26) (f_X12_asks_b157 N SM_24 v26) (f_X12_asks_b157 N SM_24 0)))
noncomputable def f_X12_asks_b109 (N : Nat) (SM : zMS) (y0 : Int32) (y1 : Int32) : Option (Int32 × zMS) := kO (¬ (y1 < 0 ∨ 7 ≤ Int32.toNatClampNeg y1)) (kL (mSA SM 10 (upd (SM.2.1 10) (Int32.toNatClampNeg y1) y0)) (fun SM_29 => kB ((SM_29.1 33) ≤ 0) (kL ((SM_29.1 33) - 0) (fun v31 => kL (mSI SM_29 33 v31) (fun SM_32 => some (1, SM_32)))) (kL ((SM_29.1 33) - 1) (fun v33 => kL (mSI SM_29 33 v33) (fun SM_34 => some (1, SM_34))))))
noncomputable def f_X12_asks (N : Nat) (SM : zMS) (a1 : Int32) (a2 : Int32) : Option (Int32 × zMS) := kC (f_X12_gives N SM a1 a2) (fun r1 => kB (r1 = 0) (f_X12_asks_b133 N SM a1 a2) (kB ((SM.1 33) = 0) (f_X12_asks_b133 N SM a1 a2) (kD (f_X12_sumOf N SM 0 a1 a2 4) (fun r5 SM_6 => kL ((SM.1 4) + r5) (fun v8 => kL (mSI SM_6 4 v8) (fun SM_9 => kO (¬ (a2 < 0 ∨ 7 ≤ Int32.toNatClampNeg a2)) (kL ((SM_9.1 3) + (SM_9.2.1 8 (Int32.toNatClampNeg a2))) (fun v11 => kL (mSI SM_9 3 v11) (fun SM_12 => kO (¬ (a2 < 0 ∨ 7 ≤ Int32.toNatClampNeg a2)) (kL ((SM_12.1 35) + (SM_12.2.1 8 (Int32.toNatClampNeg a2))) (fun v14 => kL (mSI SM_12 35 v14) (fun SM_15 => kL (mSI SM_15 5 0) (fun SM_16 => kL ((SM_16.1 6) + 1) (fun v17 => kL (mSI SM_16 6 v17) (fun SM_18 => kO (¬ (a2 < 0 ∨ 7 ≤ Int32.toNatClampNeg a2)) (kB (999 ≤ (SM_18.2.1 10 (Int32.toNatClampNeg a2))) (f_X12_asks_b109 N SM_18 999 a2) (kO (¬ (a2 < 0 ∨ 7 ≤ Int32.toNatClampNeg a2)) (kL ((SM_18.2.1 10 (Int32.toNatClampNeg a2)) + 1) (fun v22 => f_X12_asks_b109 N SM_18 v22 a2)))))))))))))))))))
theorem wv_X12_asks : zWV RX12 yX12_asks cX12_asks 4 (some .boolean) 2 := ⟨wd_31_1, wd_31_2, wd_1_5, wd_31_3, by decide +kernel⟩
def rm_X12_asks : Room := { frames := 5, cells := 0, slots := 0, locals := 107 }
set_option maxHeartbeats 4000000 in
set_option maxRecDepth 100000 in
theorem c_X12_asks {l : Launch} {G : va_G} {ct : Nat → ClassId} {aM : Nat → Nat} {N : Nat} {SM : zMS} {a1 : Int32} {a2 : Int32} {r0 : Int32} {OM : zMS} (hf : f_X12_asks N SM a1 a2 = some (r0, OM)) : zC l yX12_asks cX12_asks 4 (some .boolean) rm_X12_asks G ct [.ref (aM 200), .int a1, .int a2] [wM aM ct SM] [wM aM ct OM] (some (.int r0)) 0 0 := by
  refine z_enter (own := RX12) (lv := [(0, .ref (aM 200)), (1, .int a1), (2, .int a2)]) (by decide) rfl (Nat.le_of_ble_eq_true rfl) rfl ?_
  intro p e s m args below meth c A E hr hnm
  have B157 : ∀ (SM : zMS) (y0 : Int32), f_X12_asks_b157 N SM y0 = some (r0, OM) → zJ p l e rm_X12_asks s m args below meth c (zQ G ct (some (.int r0)) [wM aM ct OM] A below args s 0 0) A G 4 0 0 [wM aM ct SM] [(0, .ref (aM 200))] 157 [.int y0, .ref (aM 200)] := by
    intro SM y0 hf
    unfold f_X12_asks_b157 at hf
    obtain ⟨SM_35, e_SM_35, hf⟩ := kL_e hf
    refine pM_4 (pc := 157) (i := 0) (S1 := SM_35) E rfl e_SM_35 wd_3_23 dX12_asks_157 ?_
    show zJ p l e rm_X12_asks s m args below meth c (zQ G ct (some (.int r0)) [wM aM ct OM] A below args s 0 0) A G 4 0 0 [wM aM ct SM_35] [(0, .ref (aM 200))] 160 []
    refine z_aload_n (pc := 160) (k0 := 0) E dX12_asks_160 rfl rfl ?_
    refine z_dup (pc := 161) E dX12_asks_161 rfl ?_
    refine gM_3 (pc := 162) (i := 0) E rfl wd_3_22 dX12_asks_162 ?_
    refine z_iconst (pc := 165) (v := 1) E dX12_asks_165 (by decide) ?_
    obtain ⟨v36, e_v36, hf⟩ := kL_e hf
    refine z_iadd (pc := 166) (v := v36) E dX12_asks_166 e_v36 ?_
    obtain ⟨SM_37, e_SM_37, hf⟩ := kL_e hf
    refine pM_3 (pc := 167) (i := 0) (S1 := SM_37) E rfl e_SM_37 wd_3_22 dX12_asks_167 ?_
    show zJ p l e rm_X12_asks s m args below meth c (zQ G ct (some (.int r0)) [wM aM ct OM] A below args s 0 0) A G 4 0 0 [wM aM ct SM_37] [(0, .ref (aM 200))] 170 []
    refine z_aload_n (pc := 170) (k0 := 0) E dX12_asks_170 rfl rfl ?_
    refine z_dup (pc := 171) E dX12_asks_171 rfl ?_
    refine gM_5 (pc := 172) (i := 0) E rfl wd_4_0 dX12_asks_172 ?_
    refine z_iconst (pc := 175) (v := 1) E dX12_asks_175 (by decide) ?_
    obtain ⟨v38, e_v38, hf⟩ := kL_e hf
    refine z_iadd (pc := 176) (v := v38) E dX12_asks_176 e_v38 ?_
    obtain ⟨SM_39, e_SM_39, hf⟩ := kL_e hf
    refine pM_5 (pc := 177) (i := 0) (S1 := SM_39) E rfl e_SM_39 wd_4_0 dX12_asks_177 ?_
    show zJ p l e rm_X12_asks s m args below meth c (zQ G ct (some (.int r0)) [wM aM ct OM] A below args s 0 0) A G 4 0 0 [wM aM ct SM_39] [(0, .ref (aM 200))] 180 []
    refine z_iconst (pc := 180) (v := 0) E dX12_asks_180 (by decide) ?_
    cases hf
    exact z_zret E hr (by decide) dX12_asks_181
  have B133 : ∀ (SM : zMS) (x1 : Int32) (x2 : Int32), f_X12_asks_b133 N SM x1 x2 = some (r0, OM) → zJ p l e rm_X12_asks s m args below meth c (zQ G ct (some (.int r0)) [wM aM ct OM] A below args s 0 0) A G 4 0 0 [wM aM ct SM] [(0, .ref (aM 200)), (1, .int x1), (2, .int x2)] 133 [] := by
    intro SM x1 x2 hf
    unfold f_X12_asks_b133 at hf
    refine z_aload_n (pc := 133) (k0 := 0) E dX12_asks_133 rfl rfl ?_
    refine gM_4 (pc := 134) (i := 0) E rfl wd_3_23 dX12_asks_134 ?_
    refine z_aload_n (pc := 137) (k0 := 0) E dX12_asks_137 rfl rfl ?_
    refine z_iconst (pc := 138) (v := 1) E dX12_asks_138 (by decide) ?_
    refine z_iload_n (pc := 139) (k0 := 1) E dX12_asks_139 rfl rfl ?_
    refine z_iload_n (pc := 140) (k0 := 2) E dX12_asks_140 rfl rfl ?_
    refine z_iconst (pc := 141) (v := 2) E dX12_asks_141 (by decide) ?_
    obtain ⟨r23, SM_24, h25, hf⟩ := kD_e hf
    refine z_callV0 (pc := 142) (is := [0]) (n := 4) (As := [.int 1, .int x1, .int x2, .int 2]) (st := [.int (SM.1 4)]) (st' := [.int r23, .int (SM.1 4)]) (C2 := [wM aM ct SM_24]) E (c_X12_sumOf (l := l) (G := G) (ct := ct) (aM := aM) h25) wv_X12_sumOf wd_16_17 ⟨Nat.le_of_ble_eq_true rfl, Nat.le_of_ble_eq_true rfl, Nat.le_of_ble_eq_true rfl, Nat.le_of_ble_eq_true rfl⟩ rfl rfl rfl (by decide) rfl rfl (zrM (j := 0) rfl) rfl (Nat.le_of_ble_eq_true rfl) dX12_asks_142 rfl rfl ?_
    obtain ⟨v26, e_v26, hf⟩ := kL_e hf
    refine z_isub (pc := 145) (v := v26) E dX12_asks_145 e_v26 ?_
    refine z_istore_n (pc := 146) (lv' := [(3, .int v26), (0, .ref (aM 200)), (1, .int x1), (2, .int x2)]) E dX12_asks_146 rfl (by decide) rfl ?_
    refine z_aload_n (pc := 147) (k0 := 1) E dX12_asks_147 rfl rfl ?_
    refine z_iload_n (pc := 148) (k0 := 0) E dX12_asks_148 rfl rfl ?_
    refine z_if_ge (pc := 149) (tgt := 156) E dX12_asks_149 (by decide) (fun c27 => ?_) (fun c27 => ?_)
    · have hf := kB_t hf c27
      refine z_iload_n (pc := 156) (k0 := 0) E dX12_asks_156 rfl rfl ?_
      refine z_sub [1] (lv' := [(0, .ref (aM 200))]) rfl ?_
      exact B157 SM_24 v26 hf
    · have hf := kB_f hf c27
      refine z_iconst (pc := 152) (v := 0) E dX12_asks_152 (by decide) ?_
      refine z_goto (pc := 153) (tgt := 157) E dX12_asks_153 (by decide) ?_
      refine z_sub [1] (lv' := [(0, .ref (aM 200))]) rfl ?_
      exact B157 SM_24 0 hf
  have B109 : ∀ (SM : zMS) (y0 : Int32) (y1 : Int32), f_X12_asks_b109 N SM y0 y1 = some (r0, OM) → zJ p l e rm_X12_asks s m args below meth c (zQ G ct (some (.int r0)) [wM aM ct OM] A below args s 0 0) A G 4 0 0 [wM aM ct SM] [(0, .ref (aM 200))] 109 [.int y0, .int y1, .ref (aM 10)] := by
    intro SM y0 y1 hf
    unfold f_X12_asks_b109 at hf
    obtain ⟨c28, hf⟩ := kO_e hf
    obtain ⟨SM_29, e_SM_29, hf⟩ := kL_e hf
    refine sM_10 (pc := 109) (i := 0) (S1 := SM_29) E rfl c28 e_SM_29 dX12_asks_109 ?_
    show zJ p l e rm_X12_asks s m args below meth c (zQ G ct (some (.int r0)) [wM aM ct OM] A below args s 0 0) A G 4 0 0 [wM aM ct SM_29] [(0, .ref (aM 200))] 110 []
    refine z_aload_n (pc := 110) (k0 := 0) E dX12_asks_110 rfl rfl ?_
    refine z_dup (pc := 111) E dX12_asks_111 rfl ?_
    refine gM_33 (pc := 112) (i := 0) E rfl wd_5_4 dX12_asks_112 ?_
    refine z_aload_n (pc := 115) (k0 := 0) E dX12_asks_115 rfl rfl ?_
    refine gM_33 (pc := 116) (i := 0) E rfl wd_5_4 dX12_asks_116 ?_
    refine z_if_le (pc := 119) (tgt := 126) E dX12_asks_119 (by decide) (fun c30 => ?_) (fun c30 => ?_)
    · have hf := kB_t hf c30
      refine z_iconst (pc := 126) (v := 0) E dX12_asks_126 (by decide) ?_
      obtain ⟨v31, e_v31, hf⟩ := kL_e hf
      refine z_isub (pc := 127) (v := v31) E dX12_asks_127 e_v31 ?_
      obtain ⟨SM_32, e_SM_32, hf⟩ := kL_e hf
      refine pM_33 (pc := 128) (i := 0) (S1 := SM_32) E rfl e_SM_32 wd_5_4 dX12_asks_128 ?_
      show zJ p l e rm_X12_asks s m args below meth c (zQ G ct (some (.int r0)) [wM aM ct OM] A below args s 0 0) A G 4 0 0 [wM aM ct SM_32] [(0, .ref (aM 200))] 131 []
      refine z_iconst (pc := 131) (v := 1) E dX12_asks_131 (by decide) ?_
      cases hf
      exact z_zret E hr (by decide) dX12_asks_132
    · have hf := kB_f hf c30
      refine z_iconst (pc := 122) (v := 1) E dX12_asks_122 (by decide) ?_
      refine z_goto (pc := 123) (tgt := 127) E dX12_asks_123 (by decide) ?_
      obtain ⟨v33, e_v33, hf⟩ := kL_e hf
      refine z_isub (pc := 127) (v := v33) E dX12_asks_127 e_v33 ?_
      obtain ⟨SM_34, e_SM_34, hf⟩ := kL_e hf
      refine pM_33 (pc := 128) (i := 0) (S1 := SM_34) E rfl e_SM_34 wd_5_4 dX12_asks_128 ?_
      show zJ p l e rm_X12_asks s m args below meth c (zQ G ct (some (.int r0)) [wM aM ct OM] A below args s 0 0) A G 4 0 0 [wM aM ct SM_34] [(0, .ref (aM 200))] 131 []
      refine z_iconst (pc := 131) (v := 1) E dX12_asks_131 (by decide) ?_
      cases hf
      exact z_zret E hr (by decide) dX12_asks_132
  unfold f_X12_asks at hf
  refine z_aload_n (pc := 0) (k0 := 0) E dX12_asks_0 rfl rfl ?_
  refine z_iload_n (pc := 1) (k0 := 1) E dX12_asks_1 rfl rfl ?_
  refine z_iload_n (pc := 2) (k0 := 2) E dX12_asks_2 rfl rfl ?_
  obtain ⟨r1, h2, hf⟩ := kC_e hf
  refine z_callV0 (pc := 3) (is := [0]) (n := 2) (As := [.int a1, .int a2]) (st := []) (st' := [.int r1]) (C2 := [wM aM ct SM]) E (c_X12_gives (l := l) (G := G) (ct := ct) (aM := aM) h2) wv_X12_gives wd_15_17 ⟨Nat.le_of_ble_eq_true rfl, Nat.le_of_ble_eq_true rfl, Nat.le_of_ble_eq_true rfl, Nat.le_of_ble_eq_true rfl⟩ rfl rfl rfl (by decide) rfl rfl (zrM (j := 0) rfl) rfl (Nat.le_of_ble_eq_true rfl) dX12_asks_3 rfl rfl ?_
  refine z_if_eq (pc := 6) (tgt := 133) E dX12_asks_6 (by decide) (fun c3 => ?_) (fun c3 => ?_)
  · have hf := kB_t hf c3
    exact B133 SM a1 a2 hf
  · have hf := kB_f hf c3
    refine z_aload_n (pc := 9) (k0 := 0) E dX12_asks_9 rfl rfl ?_
    refine gM_33 (pc := 10) (i := 0) E rfl wd_5_4 dX12_asks_10 ?_
    refine z_if_eq (pc := 13) (tgt := 133) E dX12_asks_13 (by decide) (fun c4 => ?_) (fun c4 => ?_)
    · have hf := kB_t hf c4
      exact B133 SM a1 a2 hf
    · have hf := kB_f hf c4
      refine z_aload_n (pc := 16) (k0 := 0) E dX12_asks_16 rfl rfl ?_
      refine z_dup (pc := 17) E dX12_asks_17 rfl ?_
      refine gM_4 (pc := 18) (i := 0) E rfl wd_3_23 dX12_asks_18 ?_
      refine z_aload_n (pc := 21) (k0 := 0) E dX12_asks_21 rfl rfl ?_
      refine z_iconst (pc := 22) (v := 0) E dX12_asks_22 (by decide) ?_
      refine z_iload_n (pc := 23) (k0 := 1) E dX12_asks_23 rfl rfl ?_
      refine z_iload_n (pc := 24) (k0 := 2) E dX12_asks_24 rfl rfl ?_
      refine z_iconst (pc := 25) (v := 4) E dX12_asks_25 (by decide) ?_
      obtain ⟨r5, SM_6, h7, hf⟩ := kD_e hf
      refine z_callV0 (pc := 26) (is := [0]) (n := 4) (As := [.int 0, .int a1, .int a2, .int 4]) (st := [.int (SM.1 4), .ref (aM 200)]) (st' := [.int r5, .int (SM.1 4), .ref (aM 200)]) (C2 := [wM aM ct SM_6]) E (c_X12_sumOf (l := l) (G := G) (ct := ct) (aM := aM) h7) wv_X12_sumOf wd_16_17 ⟨Nat.le_of_ble_eq_true rfl, Nat.le_of_ble_eq_true rfl, Nat.le_of_ble_eq_true rfl, Nat.le_of_ble_eq_true rfl⟩ rfl rfl rfl (by decide) rfl rfl (zrM (j := 0) rfl) rfl (Nat.le_of_ble_eq_true rfl) dX12_asks_26 rfl rfl ?_
      obtain ⟨v8, e_v8, hf⟩ := kL_e hf
      refine z_iadd (pc := 29) (v := v8) E dX12_asks_29 e_v8 ?_
      obtain ⟨SM_9, e_SM_9, hf⟩ := kL_e hf
      refine pM_4 (pc := 30) (i := 0) (S1 := SM_9) E rfl e_SM_9 wd_3_23 dX12_asks_30 ?_
      show zJ p l e rm_X12_asks s m args below meth c (zQ G ct (some (.int r0)) [wM aM ct OM] A below args s 0 0) A G 4 0 0 [wM aM ct SM_9] [(0, .ref (aM 200)), (1, .int a1), (2, .int a2)] 33 []
      refine z_aload_n (pc := 33) (k0 := 0) E dX12_asks_33 rfl rfl ?_
      refine z_dup (pc := 34) E dX12_asks_34 rfl ?_
      refine gM_3 (pc := 35) (i := 0) E rfl wd_3_22 dX12_asks_35 ?_
      refine z_aload_n (pc := 38) (k0 := 0) E dX12_asks_38 rfl rfl ?_
      refine gM_8 (pc := 39) (i := 0) E rfl wd_4_3 dX12_asks_39 ?_
      refine z_iload_n (pc := 42) (k0 := 2) E dX12_asks_42 rfl rfl ?_
      obtain ⟨c10, hf⟩ := kO_e hf
      refine lM_8 (pc := 43) (i := 0) E rfl c10 dX12_asks_43 ?_
      obtain ⟨v11, e_v11, hf⟩ := kL_e hf
      refine z_iadd (pc := 44) (v := v11) E dX12_asks_44 e_v11 ?_
      obtain ⟨SM_12, e_SM_12, hf⟩ := kL_e hf
      refine pM_3 (pc := 45) (i := 0) (S1 := SM_12) E rfl e_SM_12 wd_3_22 dX12_asks_45 ?_
      show zJ p l e rm_X12_asks s m args below meth c (zQ G ct (some (.int r0)) [wM aM ct OM] A below args s 0 0) A G 4 0 0 [wM aM ct SM_12] [(0, .ref (aM 200)), (1, .int a1), (2, .int a2)] 48 []
      refine z_aload_n (pc := 48) (k0 := 0) E dX12_asks_48 rfl rfl ?_
      refine z_dup (pc := 49) E dX12_asks_49 rfl ?_
      refine gM_35 (pc := 50) (i := 0) E rfl wd_5_6 dX12_asks_50 ?_
      refine z_aload_n (pc := 53) (k0 := 0) E dX12_asks_53 rfl rfl ?_
      refine gM_8 (pc := 54) (i := 0) E rfl wd_4_3 dX12_asks_54 ?_
      refine z_iload_n (pc := 57) (k0 := 2) E dX12_asks_57 rfl rfl ?_
      obtain ⟨c13, hf⟩ := kO_e hf
      refine lM_8 (pc := 58) (i := 0) E rfl c13 dX12_asks_58 ?_
      obtain ⟨v14, e_v14, hf⟩ := kL_e hf
      refine z_iadd (pc := 59) (v := v14) E dX12_asks_59 e_v14 ?_
      obtain ⟨SM_15, e_SM_15, hf⟩ := kL_e hf
      refine pM_35 (pc := 60) (i := 0) (S1 := SM_15) E rfl e_SM_15 wd_5_6 dX12_asks_60 ?_
      show zJ p l e rm_X12_asks s m args below meth c (zQ G ct (some (.int r0)) [wM aM ct OM] A below args s 0 0) A G 4 0 0 [wM aM ct SM_15] [(0, .ref (aM 200)), (1, .int a1), (2, .int a2)] 63 []
      refine z_aload_n (pc := 63) (k0 := 0) E dX12_asks_63 rfl rfl ?_
      refine z_iconst (pc := 64) (v := 0) E dX12_asks_64 (by decide) ?_
      obtain ⟨SM_16, e_SM_16, hf⟩ := kL_e hf
      refine pM_5 (pc := 65) (i := 0) (S1 := SM_16) E rfl e_SM_16 wd_4_0 dX12_asks_65 ?_
      show zJ p l e rm_X12_asks s m args below meth c (zQ G ct (some (.int r0)) [wM aM ct OM] A below args s 0 0) A G 4 0 0 [wM aM ct SM_16] [(0, .ref (aM 200)), (1, .int a1), (2, .int a2)] 68 []
      refine z_aload_n (pc := 68) (k0 := 0) E dX12_asks_68 rfl rfl ?_
      refine z_dup (pc := 69) E dX12_asks_69 rfl ?_
      refine gM_6 (pc := 70) (i := 0) E rfl wd_4_1 dX12_asks_70 ?_
      refine z_iconst (pc := 73) (v := 1) E dX12_asks_73 (by decide) ?_
      obtain ⟨v17, e_v17, hf⟩ := kL_e hf
      refine z_iadd (pc := 74) (v := v17) E dX12_asks_74 e_v17 ?_
      obtain ⟨SM_18, e_SM_18, hf⟩ := kL_e hf
      refine pM_6 (pc := 75) (i := 0) (S1 := SM_18) E rfl e_SM_18 wd_4_1 dX12_asks_75 ?_
      show zJ p l e rm_X12_asks s m args below meth c (zQ G ct (some (.int r0)) [wM aM ct OM] A below args s 0 0) A G 4 0 0 [wM aM ct SM_18] [(0, .ref (aM 200)), (1, .int a1), (2, .int a2)] 78 []
      refine z_aload_n (pc := 78) (k0 := 0) E dX12_asks_78 rfl rfl ?_
      refine gM_10 (pc := 79) (i := 0) E rfl wd_4_5 dX12_asks_79 ?_
      refine z_iload_n (pc := 82) (k0 := 2) E dX12_asks_82 rfl rfl ?_
      refine z_aload_n (pc := 83) (k0 := 0) E dX12_asks_83 rfl rfl ?_
      refine gM_10 (pc := 84) (i := 0) E rfl wd_4_5 dX12_asks_84 ?_
      refine z_iload_n (pc := 87) (k0 := 2) E dX12_asks_87 rfl rfl ?_
      obtain ⟨c19, hf⟩ := kO_e hf
      refine lM_10 (pc := 88) (i := 0) E rfl c19 dX12_asks_88 ?_
      refine z_sipush (pc := 89) (v := 999) E dX12_asks_89 (by decide) ?_
      refine z_icmp_ge (pc := 92) (tgt := 106) E dX12_asks_92 (by decide) (fun c20 => ?_) (fun c20 => ?_)
      · have hf := kB_t hf c20
        refine z_sipush (pc := 106) (v := 999) E dX12_asks_106 (by decide) ?_
        refine z_sub [0] (lv' := [(0, .ref (aM 200))]) rfl ?_
        exact B109 SM_18 999 a2 hf
      · have hf := kB_f hf c20
        refine z_aload_n (pc := 95) (k0 := 0) E dX12_asks_95 rfl rfl ?_
        refine gM_10 (pc := 96) (i := 0) E rfl wd_4_5 dX12_asks_96 ?_
        refine z_iload_n (pc := 99) (k0 := 2) E dX12_asks_99 rfl rfl ?_
        obtain ⟨c21, hf⟩ := kO_e hf
        refine lM_10 (pc := 100) (i := 0) E rfl c21 dX12_asks_100 ?_
        refine z_iconst (pc := 101) (v := 1) E dX12_asks_101 (by decide) ?_
        obtain ⟨v22, e_v22, hf⟩ := kL_e hf
        refine z_iadd (pc := 102) (v := v22) E dX12_asks_102 e_v22 ?_
        refine z_goto (pc := 103) (tgt := 109) E dX12_asks_103 (by decide) ?_
        refine z_sub [0] (lv' := [(0, .ref (aM 200))]) rfl ?_
        exact B109 SM_18 v22 a2 hf
