noncomputable def f_X12_trace (SM : zMS) (a1 : Int32) : Option Int32 := kC (f_X12_in SM a1 0 19) (fun r1 => kB (r1 = 0) (some ((-1))) (kB ((SM.1 70) ≤ a1) (some ((-1))) (kO (¬ (a1 < 0 ∨ 20 ≤ Int32.toNatClampNeg a1)) (some ((SM.2.1 71 (Int32.toNatClampNeg a1)))))))
theorem wv_X12_trace : zWV RX12 yX12_trace cX12_trace 2 (some .int) 1 := ⟨wd_50_12, wd_50_13, wd_1_5, wd_50_14, by decide +kernel⟩
def rm_X12_trace : Room := { frames := 1, cells := 0, slots := 0, locals := 23 }
set_option maxHeartbeats 4000000 in
set_option maxRecDepth 100000 in
theorem c_X12_trace {l : Launch} {G : va_G} {ct : Nat → ClassId} {aM : Nat → Nat} {SM : zMS} {a1 : Int32} {r0 : Int32} (hf : f_X12_trace SM a1 = some r0) : zC l yX12_trace cX12_trace 2 (some .int) rm_X12_trace G ct [.ref (aM 200), .int a1] [wM aM ct SM] [wM aM ct SM] (some (.int r0)) 0 0 := by
  refine z_enter (own := RX12) (lv := [(0, .ref (aM 200)), (1, .int a1)]) (by decide) rfl (Nat.le_of_ble_eq_true rfl) rfl ?_
  intro p e s m args below meth c A E hr hnm
  unfold f_X12_trace at hf
  refine z_aload_n (pc := 0) (k0 := 0) E dX12_trace_0 rfl rfl ?_
  refine z_iload_n (pc := 1) (k0 := 1) E dX12_trace_1 rfl rfl ?_
  refine z_iconst (pc := 2) (v := 0) E dX12_trace_2 (by decide) ?_
  refine z_bipush (pc := 3) (v := 19) E dX12_trace_3 (by decide) ?_
  obtain ⟨r1, h2, hf⟩ := kC_e hf
  refine z_callV0 (pc := 5) (is := [0]) (n := 3) (As := [.int a1, .int 0, .int 19]) (st := []) (st' := [.int r1]) (C2 := [wM aM ct SM]) E (c_X12_in (l := l) (G := G) (ct := ct) (aM := aM) h2) wv_X12_in wd_7_11 ⟨Nat.le_of_ble_eq_true rfl, Nat.le_of_ble_eq_true rfl, Nat.le_of_ble_eq_true rfl, Nat.le_of_ble_eq_true rfl⟩ rfl rfl rfl (by decide) rfl rfl (zrM (j := 0) rfl) rfl (Nat.le_of_ble_eq_true rfl) dX12_trace_5 rfl rfl ?_
  refine z_if_eq (pc := 8) (tgt := 28) E dX12_trace_8 (by decide) (fun c3 => ?_) (fun c3 => ?_)
  · have hf := kB_t hf c3
    refine z_iconst (pc := 28) (v := (-1)) E dX12_trace_28 (by decide) ?_
    cases hf
    exact z_iret E hr dX12_trace_29
  · have hf := kB_f hf c3
    refine z_iload_n (pc := 11) (k0 := 1) E dX12_trace_11 rfl rfl ?_
    refine z_aload_n (pc := 12) (k0 := 0) E dX12_trace_12 rfl rfl ?_
    refine gM_70 (pc := 13) (i := 0) E rfl wd_6_17 dX12_trace_13 ?_
    refine z_icmp_ge (pc := 16) (tgt := 28) E dX12_trace_16 (by decide) (fun c4 => ?_) (fun c4 => ?_)
    · have hf := kB_t hf c4
      refine z_iconst (pc := 28) (v := (-1)) E dX12_trace_28 (by decide) ?_
      cases hf
      exact z_iret E hr dX12_trace_29
    · have hf := kB_f hf c4
      refine z_aload_n (pc := 19) (k0 := 0) E dX12_trace_19 rfl rfl ?_
      refine gM_71 (pc := 20) (i := 0) E rfl wd_6_18 dX12_trace_20 ?_
      refine z_iload_n (pc := 23) (k0 := 1) E dX12_trace_23 rfl rfl ?_
      obtain ⟨c5, hf⟩ := kO_e hf
      refine lM_71 (pc := 24) (i := 0) E rfl c5 dX12_trace_24 ?_
      refine z_goto (pc := 25) (tgt := 29) E dX12_trace_25 (by decide) ?_
      cases hf
      exact z_iret E hr dX12_trace_29
noncomputable def f_X12_taken_b61 (SM : zMS) (x2 : Int32) (x3 : Int32) : Option Int32 := kB (x2 = 3) (kB (x3 = 6) (some (x3)) (some ((-12)))) (some ((-12)))
noncomputable def f_X12_taken_b51 (SM : zMS) (x2 : Int32) (x3 : Int32) : Option Int32 := kB (x2 = 2) (kB (x3 = 5) (some (x3)) (f_X12_taken_b61 SM x2 x3)) (f_X12_taken_b61 SM x2 x3)
noncomputable def f_X12_taken (SM : zMS) (a1 : Int32) (a2 : Int32) : Option Int32 := kC (f_X12_in SM a2 0 6) (fun r1 => kB (r1 = 0) (some ((-2))) (kC (f_X12_isParent SM a1) (fun r4 => kB (r4 = 0) (some ((-11))) (kO (¬ (a1 < 0 ∨ 4 ≤ Int32.toNatClampNeg a1)) (kB (a2 = 0) (some ((SM.2.1 11 (Int32.toNatClampNeg a1)))) (kB ((SM.2.1 11 (Int32.toNatClampNeg a1)) = a2) (some ((SM.2.1 11 (Int32.toNatClampNeg a1)))) (kB (a2 = 1) (kB ((SM.2.1 11 (Int32.toNatClampNeg a1)) = 4) (some ((SM.2.1 11 (Int32.toNatClampNeg a1)))) (f_X12_taken_b51 SM a2 (SM.2.1 11 (Int32.toNatClampNeg a1)))) (f_X12_taken_b51 SM a2 (SM.2.1 11 (Int32.toNatClampNeg a1))))))))))
theorem wv_X12_taken : zWV RX12 yX12_taken cX12_taken 4 (some .int) 2 := ⟨wd_50_21, wd_50_22, wd_1_5, wd_50_23, by decide +kernel⟩
def rm_X12_taken : Room := { frames := 2, cells := 0, slots := 0, locals := 44 }
set_option maxHeartbeats 4000000 in
set_option maxRecDepth 100000 in
theorem c_X12_taken {l : Launch} {G : va_G} {ct : Nat → ClassId} {aM : Nat → Nat} {SM : zMS} {a1 : Int32} {a2 : Int32} {r0 : Int32} (hf : f_X12_taken SM a1 a2 = some r0) : zC l yX12_taken cX12_taken 4 (some .int) rm_X12_taken G ct [.ref (aM 200), .int a1, .int a2] [wM aM ct SM] [wM aM ct SM] (some (.int r0)) 0 0 := by
  refine z_enter (own := RX12) (lv := [(0, .ref (aM 200)), (1, .int a1), (2, .int a2)]) (by decide) rfl (Nat.le_of_ble_eq_true rfl) rfl ?_
  intro p e s m args below meth c A E hr hnm
  have B61 : ∀ (x2 : Int32) (x3 : Int32), f_X12_taken_b61 SM x2 x3 = some r0 → zJ p l e rm_X12_taken s m args below meth c (zQ G ct (some (.int r0)) [wM aM ct SM] A below args s 0 0) A G 4 0 0 [wM aM ct SM] [(2, .int x2), (3, .int x3)] 61 [] := by
    intro x2 x3 hf
    unfold f_X12_taken_b61 at hf
    refine z_iload_n (pc := 61) (k0 := 0) E dX12_taken_61 rfl rfl ?_
    refine z_iconst (pc := 62) (v := 3) E dX12_taken_62 (by decide) ?_
    refine z_icmp_ne (pc := 63) (tgt := 76) E dX12_taken_63 (by decide) (fun c14 => ?_) (fun c14 => ?_)
    · have hf := kB_f hf c14
      refine z_bipush (pc := 76) (v := (-12)) E dX12_taken_76 (by decide) ?_
      cases hf
      exact z_iret E hr dX12_taken_78
    · have hf := kB_t hf c14
      refine z_iload_n (pc := 66) (k0 := 1) E dX12_taken_66 rfl rfl ?_
      refine z_bipush (pc := 67) (v := 6) E dX12_taken_67 (by decide) ?_
      refine z_icmp_ne (pc := 69) (tgt := 76) E dX12_taken_69 (by decide) (fun c15 => ?_) (fun c15 => ?_)
      · have hf := kB_f hf c15
        refine z_bipush (pc := 76) (v := (-12)) E dX12_taken_76 (by decide) ?_
        cases hf
        exact z_iret E hr dX12_taken_78
      · have hf := kB_t hf c15
        refine z_iload_n (pc := 72) (k0 := 1) E dX12_taken_72 rfl rfl ?_
        refine z_goto (pc := 73) (tgt := 78) E dX12_taken_73 (by decide) ?_
        cases hf
        exact z_iret E hr dX12_taken_78
  have B51 : ∀ (x2 : Int32) (x3 : Int32), f_X12_taken_b51 SM x2 x3 = some r0 → zJ p l e rm_X12_taken s m args below meth c (zQ G ct (some (.int r0)) [wM aM ct SM] A below args s 0 0) A G 4 0 0 [wM aM ct SM] [(2, .int x2), (3, .int x3)] 51 [] := by
    intro x2 x3 hf
    unfold f_X12_taken_b51 at hf
    refine z_iload_n (pc := 51) (k0 := 0) E dX12_taken_51 rfl rfl ?_
    refine z_iconst (pc := 52) (v := 2) E dX12_taken_52 (by decide) ?_
    refine z_icmp_ne (pc := 53) (tgt := 61) E dX12_taken_53 (by decide) (fun c12 => ?_) (fun c12 => ?_)
    · have hf := kB_f hf c12
      exact B61 x2 x3 hf
    · have hf := kB_t hf c12
      refine z_iload_n (pc := 56) (k0 := 1) E dX12_taken_56 rfl rfl ?_
      refine z_iconst (pc := 57) (v := 5) E dX12_taken_57 (by decide) ?_
      refine z_icmp_eq (pc := 58) (tgt := 72) E dX12_taken_58 (by decide) (fun c13 => ?_) (fun c13 => ?_)
      · have hf := kB_t hf c13
        refine z_iload_n (pc := 72) (k0 := 1) E dX12_taken_72 rfl rfl ?_
        refine z_goto (pc := 73) (tgt := 78) E dX12_taken_73 (by decide) ?_
        cases hf
        exact z_iret E hr dX12_taken_78
      · have hf := kB_f hf c13
        exact B61 x2 x3 hf
  unfold f_X12_taken at hf
  refine z_aload_n (pc := 0) (k0 := 0) E dX12_taken_0 rfl rfl ?_
  refine z_iload_n (pc := 1) (k0 := 2) E dX12_taken_1 rfl rfl ?_
  refine z_iconst (pc := 2) (v := 0) E dX12_taken_2 (by decide) ?_
  refine z_bipush (pc := 3) (v := 6) E dX12_taken_3 (by decide) ?_
  obtain ⟨r1, h2, hf⟩ := kC_e hf
  refine z_callV0 (pc := 5) (is := [0]) (n := 3) (As := [.int a2, .int 0, .int 6]) (st := []) (st' := [.int r1]) (C2 := [wM aM ct SM]) E (c_X12_in (l := l) (G := G) (ct := ct) (aM := aM) h2) wv_X12_in wd_7_11 ⟨Nat.le_of_ble_eq_true rfl, Nat.le_of_ble_eq_true rfl, Nat.le_of_ble_eq_true rfl, Nat.le_of_ble_eq_true rfl⟩ rfl rfl rfl (by decide) rfl rfl (zrM (j := 0) rfl) rfl (Nat.le_of_ble_eq_true rfl) dX12_taken_5 rfl rfl ?_
  refine z_if_ne (pc := 8) (tgt := 14) E dX12_taken_8 (by decide) (fun c3 => ?_) (fun c3 => ?_)
  · have hf := kB_f hf c3
    refine z_aload_n (pc := 14) (k0 := 0) E dX12_taken_14 rfl rfl ?_
    refine z_iload_n (pc := 15) (k0 := 1) E dX12_taken_15 rfl rfl ?_
    obtain ⟨r4, h5, hf⟩ := kC_e hf
    refine z_callV0 (pc := 16) (is := [0]) (n := 1) (As := [.int a1]) (st := []) (st' := [.int r4]) (C2 := [wM aM ct SM]) E (c_X12_isParent (l := l) (G := G) (ct := ct) (aM := aM) h5) wv_X12_isParent wd_15_13 ⟨Nat.le_of_ble_eq_true rfl, Nat.le_of_ble_eq_true rfl, Nat.le_of_ble_eq_true rfl, Nat.le_of_ble_eq_true rfl⟩ rfl rfl rfl (by decide) rfl rfl (zrM (j := 0) rfl) rfl (Nat.le_of_ble_eq_true rfl) dX12_taken_16 rfl rfl ?_
    refine z_if_ne (pc := 19) (tgt := 25) E dX12_taken_19 (by decide) (fun c6 => ?_) (fun c6 => ?_)
    · have hf := kB_f hf c6
      refine z_aload_n (pc := 25) (k0 := 0) E dX12_taken_25 rfl rfl ?_
      refine gM_11 (pc := 26) (i := 0) E rfl wd_4_6 dX12_taken_26 ?_
      refine z_iload_n (pc := 29) (k0 := 1) E dX12_taken_29 rfl rfl ?_
      obtain ⟨c7, hf⟩ := kO_e hf
      refine lM_11 (pc := 30) (i := 0) E rfl c7 dX12_taken_30 ?_
      refine z_istore_n (pc := 31) (lv' := [(3, .int (SM.2.1 11 (Int32.toNatClampNeg a1))), (0, .ref (aM 200)), (1, .int a1), (2, .int a2)]) E dX12_taken_31 rfl (by decide) rfl ?_
      refine z_iload_n (pc := 32) (k0 := 3) E dX12_taken_32 rfl rfl ?_
      refine z_if_eq (pc := 33) (tgt := 72) E dX12_taken_33 (by decide) (fun c8 => ?_) (fun c8 => ?_)
      · have hf := kB_t hf c8
        refine z_iload_n (pc := 72) (k0 := 0) E dX12_taken_72 rfl rfl ?_
        refine z_goto (pc := 73) (tgt := 78) E dX12_taken_73 (by decide) ?_
        cases hf
        exact z_iret E hr dX12_taken_78
      · have hf := kB_f hf c8
        refine z_iload_n (pc := 36) (k0 := 0) E dX12_taken_36 rfl rfl ?_
        refine z_iload_n (pc := 37) (k0 := 3) E dX12_taken_37 rfl rfl ?_
        refine z_icmp_eq (pc := 38) (tgt := 72) E dX12_taken_38 (by decide) (fun c9 => ?_) (fun c9 => ?_)
        · have hf := kB_t hf c9
          refine z_iload_n (pc := 72) (k0 := 0) E dX12_taken_72 rfl rfl ?_
          refine z_goto (pc := 73) (tgt := 78) E dX12_taken_73 (by decide) ?_
          cases hf
          exact z_iret E hr dX12_taken_78
        · have hf := kB_f hf c9
          refine z_iload_n (pc := 41) (k0 := 3) E dX12_taken_41 rfl rfl ?_
          refine z_iconst (pc := 42) (v := 1) E dX12_taken_42 (by decide) ?_
          refine z_icmp_ne (pc := 43) (tgt := 51) E dX12_taken_43 (by decide) (fun c10 => ?_) (fun c10 => ?_)
          · have hf := kB_f hf c10
            refine z_sub [3, 0] (lv' := [(2, .int a2), (3, .int (SM.2.1 11 (Int32.toNatClampNeg a1)))]) rfl ?_
            exact B51 a2 (SM.2.1 11 (Int32.toNatClampNeg a1)) hf
          · have hf := kB_t hf c10
            refine z_iload_n (pc := 46) (k0 := 0) E dX12_taken_46 rfl rfl ?_
            refine z_iconst (pc := 47) (v := 4) E dX12_taken_47 (by decide) ?_
            refine z_icmp_eq (pc := 48) (tgt := 72) E dX12_taken_48 (by decide) (fun c11 => ?_) (fun c11 => ?_)
            · have hf := kB_t hf c11
              refine z_iload_n (pc := 72) (k0 := 0) E dX12_taken_72 rfl rfl ?_
              refine z_goto (pc := 73) (tgt := 78) E dX12_taken_73 (by decide) ?_
              cases hf
              exact z_iret E hr dX12_taken_78
            · have hf := kB_f hf c11
              refine z_sub [3, 0] (lv' := [(2, .int a2), (3, .int (SM.2.1 11 (Int32.toNatClampNeg a1)))]) rfl ?_
              exact B51 a2 (SM.2.1 11 (Int32.toNatClampNeg a1)) hf
    · have hf := kB_t hf c6
      refine z_bipush (pc := 22) (v := (-11)) E dX12_taken_22 (by decide) ?_
      cases hf
      exact z_iret E hr dX12_taken_24
  · have hf := kB_t hf c3
    refine z_bipush (pc := 11) (v := (-2)) E dX12_taken_11 (by decide) ?_
    cases hf
    exact z_iret E hr dX12_taken_13
noncomputable def f_X12_count (SM : zMS) (a1 : Int32) : Option Int32 := kB (a1 = 0) (some ((SM.1 1))) (kB (a1 = 1) (some ((SM.1 0))) (kB (a1 = 2) (some ((SM.1 14))) (kB (a1 = 3) (some ((SM.1 46))) (kB (a1 = 4) (some ((SM.1 48))) (kB (a1 = 5) (some ((SM.1 16))) (kB (a1 = 6) (some ((SM.1 70))) (some ((-2)))))))))
theorem wv_X12_count : zWV RX12 yX12_count cX12_count 2 (some .int) 1 := ⟨wd_51_5, wd_51_6, wd_1_5, wd_51_7, by decide +kernel⟩
def rm_X12_count : Room := { frames := 0, cells := 0, slots := 0, locals := 0 }
set_option maxHeartbeats 4000000 in
set_option maxRecDepth 100000 in
theorem c_X12_count {l : Launch} {G : va_G} {ct : Nat → ClassId} {aM : Nat → Nat} {SM : zMS} {a1 : Int32} {r0 : Int32} (hf : f_X12_count SM a1 = some r0) : zC l yX12_count cX12_count 2 (some .int) rm_X12_count G ct [.ref (aM 200), .int a1] [wM aM ct SM] [wM aM ct SM] (some (.int r0)) 0 0 := by
  refine z_enter (own := RX12) (lv := [(0, .ref (aM 200)), (1, .int a1)]) (by decide) rfl (Nat.le_of_ble_eq_true rfl) rfl ?_
  intro p e s m args below meth c A E hr hnm
  unfold f_X12_count at hf
  refine z_iload_n (pc := 0) (k0 := 1) E dX12_count_0 rfl rfl ?_
  by_cases c1 : a1 = 0
  · have hf := kB_t hf c1
    refine z_tswIn (pc := 1) (tgt := 44) (v := 0) (n := 0) (off := 43) E dX12_count_1 c1 (by decide) (by decide) (by decide) (by decide) (by decide) ?_
    refine z_aload_n (pc := 44) (k0 := 0) E dX12_count_44 rfl rfl ?_
    refine gM_1 (pc := 45) (i := 0) E rfl wd_3_20 dX12_count_45 ?_
    cases hf
    exact z_iret E hr dX12_count_48
  have hf := kB_f hf c1
  by_cases c2 : a1 = 1
  · have hf := kB_t hf c2
    refine z_tswIn (pc := 1) (tgt := 49) (v := 1) (n := 1) (off := 48) E dX12_count_1 c2 (by decide) (by decide) (by decide) (by decide) (by decide) ?_
    refine z_aload_n (pc := 49) (k0 := 0) E dX12_count_49 rfl rfl ?_
    refine gM_0 (pc := 50) (i := 0) E rfl wd_3_19 dX12_count_50 ?_
    cases hf
    exact z_iret E hr dX12_count_53
  have hf := kB_f hf c2
  by_cases c3 : a1 = 2
  · have hf := kB_t hf c3
    refine z_tswIn (pc := 1) (tgt := 54) (v := 2) (n := 2) (off := 53) E dX12_count_1 c3 (by decide) (by decide) (by decide) (by decide) (by decide) ?_
    refine z_aload_n (pc := 54) (k0 := 0) E dX12_count_54 rfl rfl ?_
    refine gM_14 (pc := 55) (i := 0) E rfl wd_4_9 dX12_count_55 ?_
    cases hf
    exact z_iret E hr dX12_count_58
  have hf := kB_f hf c3
  by_cases c4 : a1 = 3
  · have hf := kB_t hf c4
    refine z_tswIn (pc := 1) (tgt := 59) (v := 3) (n := 3) (off := 58) E dX12_count_1 c4 (by decide) (by decide) (by decide) (by decide) (by decide) ?_
    refine z_aload_n (pc := 59) (k0 := 0) E dX12_count_59 rfl rfl ?_
    refine gM_46 (pc := 60) (i := 0) E rfl wd_5_17 dX12_count_60 ?_
    cases hf
    exact z_iret E hr dX12_count_63
  have hf := kB_f hf c4
  by_cases c5 : a1 = 4
  · have hf := kB_t hf c5
    refine z_tswIn (pc := 1) (tgt := 64) (v := 4) (n := 4) (off := 63) E dX12_count_1 c5 (by decide) (by decide) (by decide) (by decide) (by decide) ?_
    refine z_aload_n (pc := 64) (k0 := 0) E dX12_count_64 rfl rfl ?_
    refine gM_48 (pc := 65) (i := 0) E rfl wd_5_19 dX12_count_65 ?_
    cases hf
    exact z_iret E hr dX12_count_68
  have hf := kB_f hf c5
  by_cases c6 : a1 = 5
  · have hf := kB_t hf c6
    refine z_tswIn (pc := 1) (tgt := 69) (v := 5) (n := 5) (off := 68) E dX12_count_1 c6 (by decide) (by decide) (by decide) (by decide) (by decide) ?_
    refine z_aload_n (pc := 69) (k0 := 0) E dX12_count_69 rfl rfl ?_
    refine gM_16 (pc := 70) (i := 0) E rfl wd_4_11 dX12_count_70 ?_
    cases hf
    exact z_iret E hr dX12_count_73
  have hf := kB_f hf c6
  by_cases c7 : a1 = 6
  · have hf := kB_t hf c7
    refine z_tswIn (pc := 1) (tgt := 74) (v := 6) (n := 6) (off := 73) E dX12_count_1 c7 (by decide) (by decide) (by decide) (by decide) (by decide) ?_
    refine z_aload_n (pc := 74) (k0 := 0) E dX12_count_74 rfl rfl ?_
    refine gM_70 (pc := 75) (i := 0) E rfl wd_6_17 dX12_count_75 ?_
    cases hf
    exact z_iret E hr dX12_count_78
  have hf := kB_f hf c7
  refine z_tswOut (pc := 1) (tgt := 79) E dX12_count_1 (by have n_c1 := lv_neT c1 (a := 0) (by decide); have n_c2 := lv_neT c2 (a := 1) (by decide); have n_c3 := lv_neT c3 (a := 2) (by decide); have n_c4 := lv_neT c4 (a := 3) (by decide); have n_c5 := lv_neT c5 (a := 4) (by decide); have n_c6 := lv_neT c6 (a := 5) (by decide); have n_c7 := lv_neT c7 (a := 6) (by decide); omega) (by decide) ?_
  refine z_bipush (pc := 79) (v := (-2)) E dX12_count_79 (by decide) ?_
  cases hf
  exact z_iret E hr dX12_count_81
noncomputable def f_X12_tape_l69 (N : Nat) : Nat → zMS → Int32 → Int32 → Option (Int32 × zMS) := fun n => Nat.rec (motive := fun _ => zMS → Int32 → Int32 → Option (Int32 × zMS)) (fun _ _ _ => none) (fun _ ih SM x1 x4 => kB (60 ≤ x4) (some (1, SM)) (kL ((60 : Int32) * x1) (fun v19 => kL (v19 + x4) (fun v20 => kO (¬ (v20 < 0 ∨ 360 ≤ Int32.toNatClampNeg v20)) (kL (mSL SM 74 (vp_updL (SM.2.2 74) (Int32.toNatClampNeg v20) 0)) (fun SM_22 => kL (x4 + 1) (fun v23 => ih SM_22 x1 v23))))))) n
theorem f_X12_tape_l69_z (N : Nat) (SM : zMS) (x1 : Int32) (x4 : Int32) : f_X12_tape_l69 N 0 SM x1 x4 = none := rfl
theorem f_X12_tape_l69_s (N : Nat) (n : Nat) (SM : zMS) (x1 : Int32) (x4 : Int32) : f_X12_tape_l69 N (n + 1) SM x1 x4 = kB (60 ≤ x4) (some (1, SM)) (kL ((60 : Int32) * x1) (fun v19 => kL (v19 + x4) (fun v20 => kO (¬ (v20 < 0 ∨ 360 ≤ Int32.toNatClampNeg v20)) (kL (mSL SM 74 (vp_updL (SM.2.2 74) (Int32.toNatClampNeg v20) 0)) (fun SM_22 => kL (x4 + 1) (fun v23 => (f_X12_tape_l69 N n) SM_22 x1 v23)))))) := rfl
noncomputable def f_X12_tape_b44 (N : Nat) (SM : zMS) (x1 : Int32) (x2 : Int32) (x3 : Int32) : Option (Int32 × zMS) := kO (¬ (x1 < 0 ∨ 6 ≤ Int32.toNatClampNeg x1)) (kL (mSA SM 72 (upd (SM.2.1 72) (Int32.toNatClampNeg x1) x2)) (fun SM_12 => kB (0 ≤ x2) (kO (¬ (x1 < 0 ∨ 6 ≤ Int32.toNatClampNeg x1)) (kL (mSA SM_12 73 (upd (SM_12.2.1 73) (Int32.toNatClampNeg x1) x3)) (fun SM_15 => f_X12_tape_l69 N N SM_15 x1 0))) (kO (¬ (x1 < 0 ∨ 6 ≤ Int32.toNatClampNeg x1)) (kL (mSA SM_12 73 (upd (SM_12.2.1 73) (Int32.toNatClampNeg x1) 0)) (fun SM_17 => f_X12_tape_l69 N N SM_17 x1 0)))))
noncomputable def f_X12_tape_b33 (N : Nat) (SM : zMS) (x1 : Int32) (x2 : Int32) (x3 : Int32) : Option (Int32 × zMS) := kB (x2 < 0) (f_X12_tape_b44 N SM x1 x2 x3) (kB (0 ≤ x3) (f_X12_tape_b44 N SM x1 x2 x3) (some ((-14), SM)))
noncomputable def f_X12_tape (N : Nat) (SM : zMS) (a1 : Int32) (a2 : Int32) (a3 : Int32) : Option (Int32 × zMS) := kC (f_X12_isTape SM a1) (fun r1 => kB (r1 = 0) (some ((-1), SM)) (kC (f_X12_in SM a2 (-1) 4) (fun r4 => kB (r4 = 0) (some ((-2), SM)) (kB (a2 < 0) (f_X12_tape_b33 N SM a1 a2 a3) (kB (a3 ≤ 60) (f_X12_tape_b33 N SM a1 a2 a3) (some ((-2), SM)))))))
theorem wv_X12_tape : zWV RX12 yX12_tape cX12_tape 5 (some .int) 3 := ⟨wd_51_13, wd_51_14, wd_1_5, wd_51_15, by decide +kernel⟩
def rm_X12_tape : Room := { frames := 2, cells := 0, slots := 0, locals := 44 }
set_option maxHeartbeats 4000000 in
set_option maxRecDepth 100000 in
theorem c_X12_tape {l : Launch} {G : va_G} {ct : Nat → ClassId} {aM : Nat → Nat} {N : Nat} {SM : zMS} {a1 : Int32} {a2 : Int32} {a3 : Int32} {r0 : Int32} {OM : zMS} (hf : f_X12_tape N SM a1 a2 a3 = some (r0, OM)) : zC l yX12_tape cX12_tape 5 (some .int) rm_X12_tape G ct [.ref (aM 200), .int a1, .int a2, .int a3] [wM aM ct SM] [wM aM ct OM] (some (.int r0)) 0 0 := by
  refine z_enter (own := RX12) (lv := [(0, .ref (aM 200)), (1, .int a1), (2, .int a2), (3, .int a3)]) (by decide) rfl (Nat.le_of_ble_eq_true rfl) rfl ?_
  intro p e s m args below meth c A E hr hnm
  have L69 : ∀ (n69 : Nat) (SM : zMS) (x1 : Int32) (x4 : Int32), f_X12_tape_l69 N n69 SM x1 x4 = some (r0, OM) → zJ p l e rm_X12_tape s m args below meth c (zQ G ct (some (.int r0)) [wM aM ct OM] A below args s 0 0) A G 5 0 0 [wM aM ct SM] [(0, .ref (aM 200)), (1, .int x1), (4, .int x4)] 69 [] := by
    intro n69
    induction n69 with
    | zero =>
      intro SM x1 x4 hf
      rw [f_X12_tape_l69_z] at hf
      cases hf
    | succ n69 ih69 =>
      intro SM x1 x4 hf
      rw [f_X12_tape_l69_s] at hf
      refine z_iload (pc := 69) (k0 := 2) E dX12_tape_69 rfl ?_
      refine z_bipush (pc := 71) (v := 60) E dX12_tape_71 (by decide) ?_
      refine z_icmp_ge (pc := 73) (tgt := 95) E dX12_tape_73 (by decide) (fun c18 => ?_) (fun c18 => ?_)
      · have hf := kB_t hf c18
        refine z_iconst (pc := 95) (v := 1) E dX12_tape_95 (by decide) ?_
        cases hf
        exact z_iret E hr dX12_tape_96
      · have hf := kB_f hf c18
        refine z_aload_n (pc := 76) (k0 := 0) E dX12_tape_76 rfl rfl ?_
        refine gM_74 (pc := 77) (i := 0) E rfl wd_6_21 dX12_tape_77 ?_
        refine z_bipush (pc := 80) (v := 60) E dX12_tape_80 (by decide) ?_
        refine z_iload_n (pc := 82) (k0 := 1) E dX12_tape_82 rfl rfl ?_
        obtain ⟨v19, e_v19, hf⟩ := kL_e hf
        refine z_imul (pc := 83) (v := v19) E dX12_tape_83 e_v19 ?_
        refine z_iload (pc := 84) (k0 := 2) E dX12_tape_84 rfl ?_
        obtain ⟨v20, e_v20, hf⟩ := kL_e hf
        refine z_iadd (pc := 86) (v := v20) E dX12_tape_86 e_v20 ?_
        refine z_lconst (pc := 87) (v := 0) E dX12_tape_87 (by decide) ?_
        obtain ⟨c21, hf⟩ := kO_e hf
        obtain ⟨SM_22, e_SM_22, hf⟩ := kL_e hf
        refine sM_74 (pc := 88) (i := 0) (S1 := SM_22) E rfl c21 e_SM_22 dX12_tape_88 ?_
        show zJ p l e rm_X12_tape s m args below meth c (zQ G ct (some (.int r0)) [wM aM ct OM] A below args s 0 0) A G 5 0 0 [wM aM ct SM_22] [(0, .ref (aM 200)), (1, .int x1), (4, .int x4)] 89 []
        obtain ⟨v23, e_v23, hf⟩ := kL_e hf
        refine z_iinc (pc := 89) (k0 := 2) (v := v23) (lv' := [(4, .int v23), (0, .ref (aM 200)), (1, .int x1)]) E dX12_tape_89 rfl e_v23 (by decide) rfl ?_
        refine z_goto (pc := 92) (tgt := 69) E dX12_tape_92 (by decide) ?_
        refine z_sub [1, 2, 0] (lv' := [(0, .ref (aM 200)), (1, .int x1), (4, .int v23)]) rfl ?_
        exact ih69 SM_22 x1 v23 hf
  have B44 : ∀ (SM : zMS) (x1 : Int32) (x2 : Int32) (x3 : Int32), f_X12_tape_b44 N SM x1 x2 x3 = some (r0, OM) → zJ p l e rm_X12_tape s m args below meth c (zQ G ct (some (.int r0)) [wM aM ct OM] A below args s 0 0) A G 5 0 0 [wM aM ct SM] [(0, .ref (aM 200)), (1, .int x1), (2, .int x2), (3, .int x3)] 44 [] := by
    intro SM x1 x2 x3 hf
    unfold f_X12_tape_b44 at hf
    refine z_aload_n (pc := 44) (k0 := 0) E dX12_tape_44 rfl rfl ?_
    refine gM_72 (pc := 45) (i := 0) E rfl wd_6_19 dX12_tape_45 ?_
    refine z_iload_n (pc := 48) (k0 := 1) E dX12_tape_48 rfl rfl ?_
    refine z_iload_n (pc := 49) (k0 := 2) E dX12_tape_49 rfl rfl ?_
    obtain ⟨c11, hf⟩ := kO_e hf
    obtain ⟨SM_12, e_SM_12, hf⟩ := kL_e hf
    refine sM_72 (pc := 50) (i := 0) (S1 := SM_12) E rfl c11 e_SM_12 dX12_tape_50 ?_
    show zJ p l e rm_X12_tape s m args below meth c (zQ G ct (some (.int r0)) [wM aM ct OM] A below args s 0 0) A G 5 0 0 [wM aM ct SM_12] [(0, .ref (aM 200)), (1, .int x1), (2, .int x2), (3, .int x3)] 51 []
    refine z_aload_n (pc := 51) (k0 := 0) E dX12_tape_51 rfl rfl ?_
    refine gM_73 (pc := 52) (i := 0) E rfl wd_6_20 dX12_tape_52 ?_
    refine z_iload_n (pc := 55) (k0 := 1) E dX12_tape_55 rfl rfl ?_
    refine z_iload_n (pc := 56) (k0 := 2) E dX12_tape_56 rfl rfl ?_
    refine z_if_ge (pc := 57) (tgt := 64) E dX12_tape_57 (by decide) (fun c13 => ?_) (fun c13 => ?_)
    · have hf := kB_t hf c13
      refine z_iload_n (pc := 64) (k0 := 3) E dX12_tape_64 rfl rfl ?_
      obtain ⟨c14, hf⟩ := kO_e hf
      obtain ⟨SM_15, e_SM_15, hf⟩ := kL_e hf
      refine sM_73 (pc := 65) (i := 0) (S1 := SM_15) E rfl c14 e_SM_15 dX12_tape_65 ?_
      show zJ p l e rm_X12_tape s m args below meth c (zQ G ct (some (.int r0)) [wM aM ct OM] A below args s 0 0) A G 5 0 0 [wM aM ct SM_15] [(0, .ref (aM 200)), (1, .int x1), (2, .int x2), (3, .int x3)] 66 []
      refine z_iconst (pc := 66) (v := 0) E dX12_tape_66 (by decide) ?_
      refine z_istore (pc := 67) (lv' := [(4, .int 0), (0, .ref (aM 200)), (1, .int x1), (2, .int x2), (3, .int x3)]) E dX12_tape_67 (by decide) rfl ?_
      refine z_sub [1, 2, 0] (lv' := [(0, .ref (aM 200)), (1, .int x1), (4, .int 0)]) rfl ?_
      exact L69 N SM_15 x1 0 hf
    · have hf := kB_f hf c13
      refine z_iconst (pc := 60) (v := 0) E dX12_tape_60 (by decide) ?_
      refine z_goto (pc := 61) (tgt := 65) E dX12_tape_61 (by decide) ?_
      obtain ⟨c16, hf⟩ := kO_e hf
      obtain ⟨SM_17, e_SM_17, hf⟩ := kL_e hf
      refine sM_73 (pc := 65) (i := 0) (S1 := SM_17) E rfl c16 e_SM_17 dX12_tape_65 ?_
      show zJ p l e rm_X12_tape s m args below meth c (zQ G ct (some (.int r0)) [wM aM ct OM] A below args s 0 0) A G 5 0 0 [wM aM ct SM_17] [(0, .ref (aM 200)), (1, .int x1), (2, .int x2), (3, .int x3)] 66 []
      refine z_iconst (pc := 66) (v := 0) E dX12_tape_66 (by decide) ?_
      refine z_istore (pc := 67) (lv' := [(4, .int 0), (0, .ref (aM 200)), (1, .int x1), (2, .int x2), (3, .int x3)]) E dX12_tape_67 (by decide) rfl ?_
      refine z_sub [1, 2, 0] (lv' := [(0, .ref (aM 200)), (1, .int x1), (4, .int 0)]) rfl ?_
      exact L69 N SM_17 x1 0 hf
  have B33 : ∀ (SM : zMS) (x1 : Int32) (x2 : Int32) (x3 : Int32), f_X12_tape_b33 N SM x1 x2 x3 = some (r0, OM) → zJ p l e rm_X12_tape s m args below meth c (zQ G ct (some (.int r0)) [wM aM ct OM] A below args s 0 0) A G 5 0 0 [wM aM ct SM] [(0, .ref (aM 200)), (1, .int x1), (2, .int x2), (3, .int x3)] 33 [] := by
    intro SM x1 x2 x3 hf
    unfold f_X12_tape_b33 at hf
    refine z_iload_n (pc := 33) (k0 := 2) E dX12_tape_33 rfl rfl ?_
    refine z_if_lt (pc := 34) (tgt := 44) E dX12_tape_34 (by decide) (fun c9 => ?_) (fun c9 => ?_)
    · have hf := kB_t hf c9
      exact B44 SM x1 x2 x3 hf
    · have hf := kB_f hf c9
      refine z_iload_n (pc := 37) (k0 := 3) E dX12_tape_37 rfl rfl ?_
      refine z_if_ge (pc := 38) (tgt := 44) E dX12_tape_38 (by decide) (fun c10 => ?_) (fun c10 => ?_)
      · have hf := kB_t hf c10
        exact B44 SM x1 x2 x3 hf
      · have hf := kB_f hf c10
        refine z_bipush (pc := 41) (v := (-14)) E dX12_tape_41 (by decide) ?_
        cases hf
        exact z_iret E hr dX12_tape_43
  unfold f_X12_tape at hf
  refine z_aload_n (pc := 0) (k0 := 0) E dX12_tape_0 rfl rfl ?_
  refine z_iload_n (pc := 1) (k0 := 1) E dX12_tape_1 rfl rfl ?_
  obtain ⟨r1, h2, hf⟩ := kC_e hf
  refine z_callV0 (pc := 2) (is := [0]) (n := 1) (As := [.int a1]) (st := []) (st' := [.int r1]) (C2 := [wM aM ct SM]) E (c_X12_isTape (l := l) (G := G) (ct := ct) (aM := aM) h2) wv_X12_isTape wd_43_7 ⟨Nat.le_of_ble_eq_true rfl, Nat.le_of_ble_eq_true rfl, Nat.le_of_ble_eq_true rfl, Nat.le_of_ble_eq_true rfl⟩ rfl rfl rfl (by decide) rfl rfl (zrM (j := 0) rfl) rfl (Nat.le_of_ble_eq_true rfl) dX12_tape_2 rfl rfl ?_
  refine z_if_ne (pc := 5) (tgt := 10) E dX12_tape_5 (by decide) (fun c3 => ?_) (fun c3 => ?_)
  · have hf := kB_f hf c3
    refine z_aload_n (pc := 10) (k0 := 0) E dX12_tape_10 rfl rfl ?_
    refine z_iload_n (pc := 11) (k0 := 2) E dX12_tape_11 rfl rfl ?_
    refine z_iconst (pc := 12) (v := (-1)) E dX12_tape_12 (by decide) ?_
    refine z_iconst (pc := 13) (v := 4) E dX12_tape_13 (by decide) ?_
    obtain ⟨r4, h5, hf⟩ := kC_e hf
    refine z_callV0 (pc := 14) (is := [0]) (n := 3) (As := [.int a2, .int (-1), .int 4]) (st := []) (st' := [.int r4]) (C2 := [wM aM ct SM]) E (c_X12_in (l := l) (G := G) (ct := ct) (aM := aM) h5) wv_X12_in wd_7_11 ⟨Nat.le_of_ble_eq_true rfl, Nat.le_of_ble_eq_true rfl, Nat.le_of_ble_eq_true rfl, Nat.le_of_ble_eq_true rfl⟩ rfl rfl rfl (by decide) rfl rfl (zrM (j := 0) rfl) rfl (Nat.le_of_ble_eq_true rfl) dX12_tape_14 rfl rfl ?_
    refine z_if_eq (pc := 17) (tgt := 30) E dX12_tape_17 (by decide) (fun c6 => ?_) (fun c6 => ?_)
    · have hf := kB_t hf c6
      refine z_bipush (pc := 30) (v := (-2)) E dX12_tape_30 (by decide) ?_
      cases hf
      exact z_iret E hr dX12_tape_32
    · have hf := kB_f hf c6
      refine z_iload_n (pc := 20) (k0 := 2) E dX12_tape_20 rfl rfl ?_
      refine z_if_lt (pc := 21) (tgt := 33) E dX12_tape_21 (by decide) (fun c7 => ?_) (fun c7 => ?_)
      · have hf := kB_t hf c7
        exact B33 SM a1 a2 a3 hf
      · have hf := kB_f hf c7
        refine z_iload_n (pc := 24) (k0 := 3) E dX12_tape_24 rfl rfl ?_
        refine z_bipush (pc := 25) (v := 60) E dX12_tape_25 (by decide) ?_
        refine z_icmp_le (pc := 27) (tgt := 33) E dX12_tape_27 (by decide) (fun c8 => ?_) (fun c8 => ?_)
        · have hf := kB_t hf c8
          exact B33 SM a1 a2 a3 hf
        · have hf := kB_f hf c8
          refine z_bipush (pc := 30) (v := (-2)) E dX12_tape_30 (by decide) ?_
          cases hf
          exact z_iret E hr dX12_tape_32
  · have hf := kB_t hf c3
    refine z_iconst (pc := 8) (v := (-1)) E dX12_tape_8 (by decide) ?_
    cases hf
    exact z_iret E hr dX12_tape_9
noncomputable def f_X12_narrow (SM : zMS) (a1 : Int32) (a2 : Int64) : Option Int64 := kB (a1 = 0) (kL (a2.toInt32) (fun v12 => kL (v12.toInt8.toInt32) (fun v13 => kL (v13.toInt64) (fun v14 => some (v14))))) (kB (a1 = 1) (kL (a2.toInt32) (fun v9 => kL (v9.toInt16.toInt32) (fun v10 => kL (v10.toInt64) (fun v11 => some (v11))))) (kB (a1 = 2) (kL (a2.toInt32) (fun v7 => kL (v7.toInt64) (fun v8 => some (v8)))) (kB (a1 = 4) (kL (lg_cmp a2 0) (fun v5 => kB (v5 = 0) (some (0)) (some (1)))) (some (a2)))))
theorem wv_X12_narrow : zWV RX12 yX12_narrow cX12_narrow 4 (some .long) 2 := ⟨wd_52_4, wd_52_5, wd_1_5, wd_52_6, by decide +kernel⟩
def rm_X12_narrow : Room := { frames := 0, cells := 0, slots := 0, locals := 0 }
set_option maxHeartbeats 4000000 in
set_option maxRecDepth 100000 in
theorem c_X12_narrow {l : Launch} {G : va_G} {ct : Nat → ClassId} {aM : Nat → Nat} {SM : zMS} {a1 : Int32} {a2 : Int64} {r0 : Int64} (hf : f_X12_narrow SM a1 a2 = some r0) : zC l yX12_narrow cX12_narrow 4 (some .long) rm_X12_narrow G ct [.ref (aM 200), .int a1, .long a2] [wM aM ct SM] [wM aM ct SM] (some (.long r0)) 0 0 := by
  refine z_enter (own := RX12) (lv := [(0, .ref (aM 200)), (1, .int a1), (2, .long a2)]) (by decide) rfl (Nat.le_of_ble_eq_true rfl) rfl ?_
  intro p e s m args below meth c A E hr hnm
  unfold f_X12_narrow at hf
  refine z_iload_n (pc := 0) (k0 := 1) E dX12_narrow_0 rfl rfl ?_
  refine z_if_ne (pc := 1) (tgt := 11) E dX12_narrow_1 (by decide) (fun c1 => ?_) (fun c1 => ?_)
  · have hf := kB_f hf c1
    refine z_iload_n (pc := 11) (k0 := 1) E dX12_narrow_11 rfl rfl ?_
    refine z_iconst (pc := 12) (v := 1) E dX12_narrow_12 (by decide) ?_
    refine z_icmp_ne (pc := 13) (tgt := 23) E dX12_narrow_13 (by decide) (fun c2 => ?_) (fun c2 => ?_)
    · have hf := kB_f hf c2
      refine z_iload_n (pc := 23) (k0 := 1) E dX12_narrow_23 rfl rfl ?_
      refine z_iconst (pc := 24) (v := 2) E dX12_narrow_24 (by decide) ?_
      refine z_icmp_ne (pc := 25) (tgt := 34) E dX12_narrow_25 (by decide) (fun c3 => ?_) (fun c3 => ?_)
      · have hf := kB_f hf c3
        refine z_iload_n (pc := 34) (k0 := 1) E dX12_narrow_34 rfl rfl ?_
        refine z_iconst (pc := 35) (v := 4) E dX12_narrow_35 (by decide) ?_
        refine z_icmp_ne (pc := 36) (tgt := 53) E dX12_narrow_36 (by decide) (fun c4 => ?_) (fun c4 => ?_)
        · have hf := kB_f hf c4
          refine z_lload_n (pc := 53) (k0 := 2) E dX12_narrow_53 rfl rfl ?_
          cases hf
          exact z_lret E hr dX12_narrow_54
        · have hf := kB_t hf c4
          refine z_lload_n (pc := 39) (k0 := 2) E dX12_narrow_39 rfl rfl ?_
          refine z_lconst (pc := 40) (v := 0) E dX12_narrow_40 (by decide) ?_
          obtain ⟨v5, e_v5, hf⟩ := kL_e hf
          refine z_lcmp (pc := 41) (v := v5) E dX12_narrow_41 e_v5 ?_
          refine z_if_eq (pc := 42) (tgt := 49) E dX12_narrow_42 (by decide) (fun c6 => ?_) (fun c6 => ?_)
          · have hf := kB_t hf c6
            refine z_lconst (pc := 49) (v := 0) E dX12_narrow_49 (by decide) ?_
            refine z_goto (pc := 50) (tgt := 54) E dX12_narrow_50 (by decide) ?_
            cases hf
            exact z_lret E hr dX12_narrow_54
          · have hf := kB_f hf c6
            refine z_lconst (pc := 45) (v := 1) E dX12_narrow_45 (by decide) ?_
            refine z_goto (pc := 46) (tgt := 54) E dX12_narrow_46 (by decide) ?_
            cases hf
            exact z_lret E hr dX12_narrow_54
      · have hf := kB_t hf c3
        refine z_lload_n (pc := 28) (k0 := 2) E dX12_narrow_28 rfl rfl ?_
        obtain ⟨v7, e_v7, hf⟩ := kL_e hf
        refine z_l2i (pc := 29) (v := v7) E dX12_narrow_29 e_v7 ?_
        obtain ⟨v8, e_v8, hf⟩ := kL_e hf
        refine z_i2l (pc := 30) (v := v8) E dX12_narrow_30 e_v8 ?_
        refine z_goto (pc := 31) (tgt := 54) E dX12_narrow_31 (by decide) ?_
        cases hf
        exact z_lret E hr dX12_narrow_54
    · have hf := kB_t hf c2
      refine z_lload_n (pc := 16) (k0 := 2) E dX12_narrow_16 rfl rfl ?_
      obtain ⟨v9, e_v9, hf⟩ := kL_e hf
      refine z_l2i (pc := 17) (v := v9) E dX12_narrow_17 e_v9 ?_
      obtain ⟨v10, e_v10, hf⟩ := kL_e hf
      refine z_i2s (pc := 18) (v := v10) E dX12_narrow_18 e_v10 ?_
      obtain ⟨v11, e_v11, hf⟩ := kL_e hf
      refine z_i2l (pc := 19) (v := v11) E dX12_narrow_19 e_v11 ?_
      refine z_goto (pc := 20) (tgt := 54) E dX12_narrow_20 (by decide) ?_
      cases hf
      exact z_lret E hr dX12_narrow_54
  · have hf := kB_t hf c1
    refine z_lload_n (pc := 4) (k0 := 2) E dX12_narrow_4 rfl rfl ?_
    obtain ⟨v12, e_v12, hf⟩ := kL_e hf
    refine z_l2i (pc := 5) (v := v12) E dX12_narrow_5 e_v12 ?_
    obtain ⟨v13, e_v13, hf⟩ := kL_e hf
    refine z_i2b (pc := 6) (v := v13) E dX12_narrow_6 e_v13 ?_
    obtain ⟨v14, e_v14, hf⟩ := kL_e hf
    refine z_i2l (pc := 7) (v := v14) E dX12_narrow_7 e_v14 ?_
    refine z_goto (pc := 8) (tgt := 54) E dX12_narrow_8 (by decide) ?_
    cases hf
    exact z_lret E hr dX12_narrow_54
noncomputable def f_X12_item (SM : zMS) (a1 : Int32) (a2 : Int32) (a3 : Int64) : Option (Int32 × zMS) := kC (f_X12_isTape SM a1) (fun r1 => kB (r1 = 0) (some ((-1), SM)) (kO (¬ (a1 < 0 ∨ 6 ≤ Int32.toNatClampNeg a1)) (kB (0 ≤ (SM.2.1 72 (Int32.toNatClampNeg a1))) (kO (¬ (a1 < 0 ∨ 6 ≤ Int32.toNatClampNeg a1)) (kL ((SM.2.1 73 (Int32.toNatClampNeg a1)) - 1) (fun v7 => kC (f_X12_in SM a2 0 v7) (fun r8 => kB (r8 = 0) (some ((-13), SM)) (kL ((60 : Int32) * a1) (fun v11 => kL (v11 + a2) (fun v12 => kO (¬ (a1 < 0 ∨ 6 ≤ Int32.toNatClampNeg a1)) (kC (f_X12_narrow SM (SM.2.1 72 (Int32.toNatClampNeg a1)) a3) (fun r14 => kO (¬ (v12 < 0 ∨ 360 ≤ Int32.toNatClampNeg v12)) (kL (mSL SM 74 (vp_updL (SM.2.2 74) (Int32.toNatClampNeg v12) r14)) (fun SM_17 => some (1, SM_17)))))))))))) (some ((-11), SM)))))
theorem wv_X12_item : zWV RX12 yX12_item cX12_item 5 (some .int) 3 := ⟨wd_52_0, wd_52_1, wd_1_5, wd_52_2, by decide +kernel⟩
def rm_X12_item : Room := { frames := 2, cells := 0, slots := 0, locals := 44 }
set_option maxHeartbeats 4000000 in
set_option maxRecDepth 100000 in
theorem c_X12_item {l : Launch} {G : va_G} {ct : Nat → ClassId} {aM : Nat → Nat} {SM : zMS} {a1 : Int32} {a2 : Int32} {a3 : Int64} {r0 : Int32} {OM : zMS} (hf : f_X12_item SM a1 a2 a3 = some (r0, OM)) : zC l yX12_item cX12_item 5 (some .int) rm_X12_item G ct [.ref (aM 200), .int a1, .int a2, .long a3] [wM aM ct SM] [wM aM ct OM] (some (.int r0)) 0 0 := by
  refine z_enter (own := RX12) (lv := [(0, .ref (aM 200)), (1, .int a1), (2, .int a2), (3, .long a3)]) (by decide) rfl (Nat.le_of_ble_eq_true rfl) rfl ?_
  intro p e s m args below meth c A E hr hnm
  unfold f_X12_item at hf
  refine z_aload_n (pc := 0) (k0 := 0) E dX12_item_0 rfl rfl ?_
  refine z_iload_n (pc := 1) (k0 := 1) E dX12_item_1 rfl rfl ?_
  obtain ⟨r1, h2, hf⟩ := kC_e hf
  refine z_callV0 (pc := 2) (is := [0]) (n := 1) (As := [.int a1]) (st := []) (st' := [.int r1]) (C2 := [wM aM ct SM]) E (c_X12_isTape (l := l) (G := G) (ct := ct) (aM := aM) h2) wv_X12_isTape wd_43_7 ⟨Nat.le_of_ble_eq_true rfl, Nat.le_of_ble_eq_true rfl, Nat.le_of_ble_eq_true rfl, Nat.le_of_ble_eq_true rfl⟩ rfl rfl rfl (by decide) rfl rfl (zrM (j := 0) rfl) rfl (Nat.le_of_ble_eq_true rfl) dX12_item_2 rfl rfl ?_
  refine z_if_ne (pc := 5) (tgt := 10) E dX12_item_5 (by decide) (fun c3 => ?_) (fun c3 => ?_)
  · have hf := kB_f hf c3
    refine z_aload_n (pc := 10) (k0 := 0) E dX12_item_10 rfl rfl ?_
    refine gM_72 (pc := 11) (i := 0) E rfl wd_6_19 dX12_item_11 ?_
    refine z_iload_n (pc := 14) (k0 := 1) E dX12_item_14 rfl rfl ?_
    obtain ⟨c4, hf⟩ := kO_e hf
    refine lM_72 (pc := 15) (i := 0) E rfl c4 dX12_item_15 ?_
    refine z_if_ge (pc := 16) (tgt := 22) E dX12_item_16 (by decide) (fun c5 => ?_) (fun c5 => ?_)
    · have hf := kB_t hf c5
      refine z_aload_n (pc := 22) (k0 := 0) E dX12_item_22 rfl rfl ?_
      refine z_iload_n (pc := 23) (k0 := 2) E dX12_item_23 rfl rfl ?_
      refine z_iconst (pc := 24) (v := 0) E dX12_item_24 (by decide) ?_
      refine z_aload_n (pc := 25) (k0 := 0) E dX12_item_25 rfl rfl ?_
      refine gM_73 (pc := 26) (i := 0) E rfl wd_6_20 dX12_item_26 ?_
      refine z_iload_n (pc := 29) (k0 := 1) E dX12_item_29 rfl rfl ?_
      obtain ⟨c6, hf⟩ := kO_e hf
      refine lM_73 (pc := 30) (i := 0) E rfl c6 dX12_item_30 ?_
      refine z_iconst (pc := 31) (v := 1) E dX12_item_31 (by decide) ?_
      obtain ⟨v7, e_v7, hf⟩ := kL_e hf
      refine z_isub (pc := 32) (v := v7) E dX12_item_32 e_v7 ?_
      obtain ⟨r8, h9, hf⟩ := kC_e hf
      refine z_callV0 (pc := 33) (is := [0]) (n := 3) (As := [.int a2, .int 0, .int v7]) (st := []) (st' := [.int r8]) (C2 := [wM aM ct SM]) E (c_X12_in (l := l) (G := G) (ct := ct) (aM := aM) h9) wv_X12_in wd_7_11 ⟨Nat.le_of_ble_eq_true rfl, Nat.le_of_ble_eq_true rfl, Nat.le_of_ble_eq_true rfl, Nat.le_of_ble_eq_true rfl⟩ rfl rfl rfl (by decide) rfl rfl (zrM (j := 0) rfl) rfl (Nat.le_of_ble_eq_true rfl) dX12_item_33 rfl rfl ?_
      refine z_if_ne (pc := 36) (tgt := 42) E dX12_item_36 (by decide) (fun c10 => ?_) (fun c10 => ?_)
      · have hf := kB_f hf c10
        refine z_aload_n (pc := 42) (k0 := 0) E dX12_item_42 rfl rfl ?_
        refine gM_74 (pc := 43) (i := 0) E rfl wd_6_21 dX12_item_43 ?_
        refine z_bipush (pc := 46) (v := 60) E dX12_item_46 (by decide) ?_
        refine z_iload_n (pc := 48) (k0 := 1) E dX12_item_48 rfl rfl ?_
        obtain ⟨v11, e_v11, hf⟩ := kL_e hf
        refine z_imul (pc := 49) (v := v11) E dX12_item_49 e_v11 ?_
        refine z_iload_n (pc := 50) (k0 := 2) E dX12_item_50 rfl rfl ?_
        obtain ⟨v12, e_v12, hf⟩ := kL_e hf
        refine z_iadd (pc := 51) (v := v12) E dX12_item_51 e_v12 ?_
        refine z_aload_n (pc := 52) (k0 := 0) E dX12_item_52 rfl rfl ?_
        refine z_aload_n (pc := 53) (k0 := 0) E dX12_item_53 rfl rfl ?_
        refine gM_72 (pc := 54) (i := 0) E rfl wd_6_19 dX12_item_54 ?_
        refine z_iload_n (pc := 57) (k0 := 1) E dX12_item_57 rfl rfl ?_
        obtain ⟨c13, hf⟩ := kO_e hf
        refine lM_72 (pc := 58) (i := 0) E rfl c13 dX12_item_58 ?_
        refine z_lload_n (pc := 59) (k0 := 3) E dX12_item_59 rfl rfl ?_
        obtain ⟨r14, h15, hf⟩ := kC_e hf
        refine z_callV0 (pc := 60) (is := [0]) (n := 2) (As := [.int (SM.2.1 72 (Int32.toNatClampNeg a1)), .long a3]) (st := [.int v12, .ref (aM 74)]) (st' := [.long r14, .int v12, .ref (aM 74)]) (C2 := [wM aM ct SM]) E (c_X12_narrow (l := l) (G := G) (ct := ct) (aM := aM) h15) wv_X12_narrow wd_52_3 ⟨Nat.le_of_ble_eq_true rfl, Nat.le_of_ble_eq_true rfl, Nat.le_of_ble_eq_true rfl, Nat.le_of_ble_eq_true rfl⟩ rfl rfl rfl (by decide) rfl rfl (zrM (j := 0) rfl) rfl (Nat.le_of_ble_eq_true rfl) dX12_item_60 rfl rfl ?_
        obtain ⟨c16, hf⟩ := kO_e hf
        obtain ⟨SM_17, e_SM_17, hf⟩ := kL_e hf
        refine sM_74 (pc := 63) (i := 0) (S1 := SM_17) E rfl c16 e_SM_17 dX12_item_63 ?_
        show zJ p l e rm_X12_item s m args below meth c (zQ G ct (some (.int r0)) [wM aM ct OM] A below args s 0 0) A G 5 0 0 [wM aM ct SM_17] [(0, .ref (aM 200)), (1, .int a1), (2, .int a2), (3, .long a3)] 64 []
        refine z_iconst (pc := 64) (v := 1) E dX12_item_64 (by decide) ?_
        cases hf
        exact z_iret E hr dX12_item_65
      · have hf := kB_t hf c10
        refine z_bipush (pc := 39) (v := (-13)) E dX12_item_39 (by decide) ?_
        cases hf
        exact z_iret E hr dX12_item_41
    · have hf := kB_f hf c5
      refine z_bipush (pc := 19) (v := (-11)) E dX12_item_19 (by decide) ?_
      cases hf
      exact z_iret E hr dX12_item_21
  · have hf := kB_t hf c3
    refine z_iconst (pc := 8) (v := (-1)) E dX12_item_8 (by decide) ?_
    cases hf
    exact z_iret E hr dX12_item_9
noncomputable def f_X12_read (SM : zMS) (a1 : Int32) (a2 : Int32) : Option Int64 := kC (f_X12_isTape SM a1) (fun r1 => kB (r1 = 0) (some ((-9223372036854775808))) (kO (¬ (a1 < 0 ∨ 6 ≤ Int32.toNatClampNeg a1)) (kB ((SM.2.1 72 (Int32.toNatClampNeg a1)) < 0) (some ((-9223372036854775808))) (kO (¬ (a1 < 0 ∨ 6 ≤ Int32.toNatClampNeg a1)) (kL ((SM.2.1 73 (Int32.toNatClampNeg a1)) - 1) (fun v7 => kC (f_X12_in SM a2 0 v7) (fun r8 => kB (r8 = 0) (some ((-9223372036854775808))) (kL ((60 : Int32) * a1) (fun v11 => kL (v11 + a2) (fun v12 => kO (¬ (v12 < 0 ∨ 360 ≤ Int32.toNatClampNeg v12)) (some ((SM.2.2 74 (Int32.toNatClampNeg v12))))))))))))))
theorem wv_X12_read : zWV RX12 yX12_read cX12_read 3 (some .long) 2 := ⟨wd_52_12, wd_52_13, wd_1_5, wd_52_14, by decide +kernel⟩
def rm_X12_read : Room := { frames := 2, cells := 0, slots := 0, locals := 44 }
set_option maxHeartbeats 4000000 in
set_option maxRecDepth 100000 in
theorem c_X12_read {l : Launch} {G : va_G} {ct : Nat → ClassId} {aM : Nat → Nat} {SM : zMS} {a1 : Int32} {a2 : Int32} {r0 : Int64} (hf : f_X12_read SM a1 a2 = some r0) : zC l yX12_read cX12_read 3 (some .long) rm_X12_read G ct [.ref (aM 200), .int a1, .int a2] [wM aM ct SM] [wM aM ct SM] (some (.long r0)) 0 0 := by
  refine z_enter (own := RX12) (lv := [(0, .ref (aM 200)), (1, .int a1), (2, .int a2)]) (by decide) rfl (Nat.le_of_ble_eq_true rfl) rfl ?_
  intro p e s m args below meth c A E hr hnm
  unfold f_X12_read at hf
  refine z_aload_n (pc := 0) (k0 := 0) E dX12_read_0 rfl rfl ?_
  refine z_iload_n (pc := 1) (k0 := 1) E dX12_read_1 rfl rfl ?_
  obtain ⟨r1, h2, hf⟩ := kC_e hf
  refine z_callV0 (pc := 2) (is := [0]) (n := 1) (As := [.int a1]) (st := []) (st' := [.int r1]) (C2 := [wM aM ct SM]) E (c_X12_isTape (l := l) (G := G) (ct := ct) (aM := aM) h2) wv_X12_isTape wd_43_7 ⟨Nat.le_of_ble_eq_true rfl, Nat.le_of_ble_eq_true rfl, Nat.le_of_ble_eq_true rfl, Nat.le_of_ble_eq_true rfl⟩ rfl rfl rfl (by decide) rfl rfl (zrM (j := 0) rfl) rfl (Nat.le_of_ble_eq_true rfl) dX12_read_2 rfl rfl ?_
  refine z_if_eq (pc := 5) (tgt := 34) E dX12_read_5 (by decide) (fun c3 => ?_) (fun c3 => ?_)
  · have hf := kB_t hf c3
    refine z_ldc2 (pc := 34) (v := (-9223372036854775808)) E wd_41_7 dX12_read_34 ?_
    refine z_goto (pc := 37) (tgt := 51) E dX12_read_37 (by decide) ?_
    cases hf
    exact z_lret E hr dX12_read_51
  · have hf := kB_f hf c3
    refine z_aload_n (pc := 8) (k0 := 0) E dX12_read_8 rfl rfl ?_
    refine gM_72 (pc := 9) (i := 0) E rfl wd_6_19 dX12_read_9 ?_
    refine z_iload_n (pc := 12) (k0 := 1) E dX12_read_12 rfl rfl ?_
    obtain ⟨c4, hf⟩ := kO_e hf
    refine lM_72 (pc := 13) (i := 0) E rfl c4 dX12_read_13 ?_
    refine z_if_lt (pc := 14) (tgt := 34) E dX12_read_14 (by decide) (fun c5 => ?_) (fun c5 => ?_)
    · have hf := kB_t hf c5
      refine z_ldc2 (pc := 34) (v := (-9223372036854775808)) E wd_41_7 dX12_read_34 ?_
      refine z_goto (pc := 37) (tgt := 51) E dX12_read_37 (by decide) ?_
      cases hf
      exact z_lret E hr dX12_read_51
    · have hf := kB_f hf c5
      refine z_aload_n (pc := 17) (k0 := 0) E dX12_read_17 rfl rfl ?_
      refine z_iload_n (pc := 18) (k0 := 2) E dX12_read_18 rfl rfl ?_
      refine z_iconst (pc := 19) (v := 0) E dX12_read_19 (by decide) ?_
      refine z_aload_n (pc := 20) (k0 := 0) E dX12_read_20 rfl rfl ?_
      refine gM_73 (pc := 21) (i := 0) E rfl wd_6_20 dX12_read_21 ?_
      refine z_iload_n (pc := 24) (k0 := 1) E dX12_read_24 rfl rfl ?_
      obtain ⟨c6, hf⟩ := kO_e hf
      refine lM_73 (pc := 25) (i := 0) E rfl c6 dX12_read_25 ?_
      refine z_iconst (pc := 26) (v := 1) E dX12_read_26 (by decide) ?_
      obtain ⟨v7, e_v7, hf⟩ := kL_e hf
      refine z_isub (pc := 27) (v := v7) E dX12_read_27 e_v7 ?_
      obtain ⟨r8, h9, hf⟩ := kC_e hf
      refine z_callV0 (pc := 28) (is := [0]) (n := 3) (As := [.int a2, .int 0, .int v7]) (st := []) (st' := [.int r8]) (C2 := [wM aM ct SM]) E (c_X12_in (l := l) (G := G) (ct := ct) (aM := aM) h9) wv_X12_in wd_7_11 ⟨Nat.le_of_ble_eq_true rfl, Nat.le_of_ble_eq_true rfl, Nat.le_of_ble_eq_true rfl, Nat.le_of_ble_eq_true rfl⟩ rfl rfl rfl (by decide) rfl rfl (zrM (j := 0) rfl) rfl (Nat.le_of_ble_eq_true rfl) dX12_read_28 rfl rfl ?_
      refine z_if_ne (pc := 31) (tgt := 40) E dX12_read_31 (by decide) (fun c10 => ?_) (fun c10 => ?_)
      · have hf := kB_f hf c10
        refine z_aload_n (pc := 40) (k0 := 0) E dX12_read_40 rfl rfl ?_
        refine gM_74 (pc := 41) (i := 0) E rfl wd_6_21 dX12_read_41 ?_
        refine z_bipush (pc := 44) (v := 60) E dX12_read_44 (by decide) ?_
        refine z_iload_n (pc := 46) (k0 := 1) E dX12_read_46 rfl rfl ?_
        obtain ⟨v11, e_v11, hf⟩ := kL_e hf
        refine z_imul (pc := 47) (v := v11) E dX12_read_47 e_v11 ?_
        refine z_iload_n (pc := 48) (k0 := 2) E dX12_read_48 rfl rfl ?_
        obtain ⟨v12, e_v12, hf⟩ := kL_e hf
        refine z_iadd (pc := 49) (v := v12) E dX12_read_49 e_v12 ?_
        obtain ⟨c13, hf⟩ := kO_e hf
        refine lM_74 (pc := 50) (i := 0) E rfl c13 dX12_read_50 ?_
        cases hf
        exact z_lret E hr dX12_read_51
      · have hf := kB_t hf c10
        refine z_ldc2 (pc := 34) (v := (-9223372036854775808)) E wd_41_7 dX12_read_34 ?_
        refine z_goto (pc := 37) (tgt := 51) E dX12_read_37 (by decide) ?_
        cases hf
        exact z_lret E hr dX12_read_51
noncomputable def f_X12_shift_l141 (N : Nat) : Nat → zMS → Int32 → Int32 → Int32 → Int32 → Option (Int32 × zMS) := fun n => Nat.rec (motive := fun _ => zMS → Int32 → Int32 → Int32 → Int32 → Option (Int32 × zMS)) (fun _ _ _ _ _ => none) (fun _ ih SM x3 x4 x5 x6 => kB (x5 ≤ x6) (some (x5, SM)) (kL ((60 : Int32) * x3) (fun v32 => kL (v32 + x4) (fun v33 => kL (v33 + x6) (fun v34 => kO (¬ (x6 < 0 ∨ 60 ≤ Int32.toNatClampNeg x6)) (kO (¬ (v34 < 0 ∨ 360 ≤ Int32.toNatClampNeg v34)) (kL (mSL SM 74 (vp_updL (SM.2.2 74) (Int32.toNatClampNeg v34) (SM.2.2 75 (Int32.toNatClampNeg x6)))) (fun SM_37 => kL (x6 + 1) (fun v38 => ih SM_37 x3 x4 x5 v38))))))))) n
theorem f_X12_shift_l141_z (N : Nat) (SM : zMS) (x3 : Int32) (x4 : Int32) (x5 : Int32) (x6 : Int32) : f_X12_shift_l141 N 0 SM x3 x4 x5 x6 = none := rfl
theorem f_X12_shift_l141_s (N : Nat) (n : Nat) (SM : zMS) (x3 : Int32) (x4 : Int32) (x5 : Int32) (x6 : Int32) : f_X12_shift_l141 N (n + 1) SM x3 x4 x5 x6 = kB (x5 ≤ x6) (some (x5, SM)) (kL ((60 : Int32) * x3) (fun v32 => kL (v32 + x4) (fun v33 => kL (v33 + x6) (fun v34 => kO (¬ (x6 < 0 ∨ 60 ≤ Int32.toNatClampNeg x6)) (kO (¬ (v34 < 0 ∨ 360 ≤ Int32.toNatClampNeg v34)) (kL (mSL SM 74 (vp_updL (SM.2.2 74) (Int32.toNatClampNeg v34) (SM.2.2 75 (Int32.toNatClampNeg x6)))) (fun SM_37 => kL (x6 + 1) (fun v38 => (f_X12_shift_l141 N n) SM_37 x3 x4 x5 v38)))))))) := rfl
noncomputable def f_X12_shift_l104 (N : Nat) : Nat → zMS → Int32 → Int32 → Int32 → Int32 → Int32 → Int32 → Option (Int32 × zMS) := fun n => Nat.rec (motive := fun _ => zMS → Int32 → Int32 → Int32 → Int32 → Int32 → Int32 → Option (Int32 × zMS)) (fun _ _ _ _ _ _ _ => none) (fun _ ih SM x1 x2 x3 x4 x5 x6 => kB (x5 ≤ x6) (f_X12_shift_l141 N N SM x3 x4 x5 0) (kL ((60 : Int32) * x1) (fun v24 => kL (v24 + x2) (fun v25 => kL (v25 + x6) (fun v26 => kO (¬ (v26 < 0 ∨ 360 ≤ Int32.toNatClampNeg v26)) (kO (¬ (x6 < 0 ∨ 60 ≤ Int32.toNatClampNeg x6)) (kL (mSL SM 75 (vp_updL (SM.2.2 75) (Int32.toNatClampNeg x6) (SM.2.2 74 (Int32.toNatClampNeg v26)))) (fun SM_29 => kL (x6 + 1) (fun v30 => ih SM_29 x1 x2 x3 x4 x5 v30))))))))) n
theorem f_X12_shift_l104_z (N : Nat) (SM : zMS) (x1 : Int32) (x2 : Int32) (x3 : Int32) (x4 : Int32) (x5 : Int32) (x6 : Int32) : f_X12_shift_l104 N 0 SM x1 x2 x3 x4 x5 x6 = none := rfl
theorem f_X12_shift_l104_s (N : Nat) (n : Nat) (SM : zMS) (x1 : Int32) (x2 : Int32) (x3 : Int32) (x4 : Int32) (x5 : Int32) (x6 : Int32) : f_X12_shift_l104 N (n + 1) SM x1 x2 x3 x4 x5 x6 = kB (x5 ≤ x6) (f_X12_shift_l141 N N SM x3 x4 x5 0) (kL ((60 : Int32) * x1) (fun v24 => kL (v24 + x2) (fun v25 => kL (v25 + x6) (fun v26 => kO (¬ (v26 < 0 ∨ 360 ≤ Int32.toNatClampNeg v26)) (kO (¬ (x6 < 0 ∨ 60 ≤ Int32.toNatClampNeg x6)) (kL (mSL SM 75 (vp_updL (SM.2.2 75) (Int32.toNatClampNeg x6) (SM.2.2 74 (Int32.toNatClampNeg v26)))) (fun SM_29 => kL (x6 + 1) (fun v30 => (f_X12_shift_l104 N n) SM_29 x1 x2 x3 x4 x5 v30)))))))) := rfl
noncomputable def f_X12_shift (N : Nat) (SM : zMS) (a1 : Int32) (a2 : Int32) (a3 : Int32) (a4 : Int32) (a5 : Int32) : Option (Int32 × zMS) := kC (f_X12_isTape SM a1) (fun r1 => kB (r1 = 0) (some ((-1), SM)) (kC (f_X12_isTape SM a3) (fun r4 => kB (r4 = 0) (some ((-1), SM)) (kO (¬ (a1 < 0 ∨ 6 ≤ Int32.toNatClampNeg a1)) (kB ((SM.2.1 72 (Int32.toNatClampNeg a1)) < 0) (some ((-11), SM)) (kO (¬ (a3 < 0 ∨ 6 ≤ Int32.toNatClampNeg a3)) (kB (0 ≤ (SM.2.1 72 (Int32.toNatClampNeg a3))) (kO (¬ (a1 < 0 ∨ 6 ≤ Int32.toNatClampNeg a1)) (kO (¬ (a3 < 0 ∨ 6 ≤ Int32.toNatClampNeg a3)) (kB ((SM.2.1 72 (Int32.toNatClampNeg a1)) = (SM.2.1 72 (Int32.toNatClampNeg a3))) (kB (a5 < 0) (some ((-13), SM)) (kB (a2 < 0) (some ((-13), SM)) (kB (a4 < 0) (some ((-13), SM)) (kO (¬ (a1 < 0 ∨ 6 ≤ Int32.toNatClampNeg a1)) (kL ((SM.2.1 73 (Int32.toNatClampNeg a1)) - a5) (fun v18 => kB (v18 < a2) (some ((-13), SM)) (kO (¬ (a3 < 0 ∨ 6 ≤ Int32.toNatClampNeg a3)) (kL ((SM.2.1 73 (Int32.toNatClampNeg a3)) - a5) (fun v21 => kB (a4 ≤ v21) (f_X12_shift_l104 N N SM a1 a2 a3 a4 a5 0) (some ((-13), SM))))))))))) (some ((-12), SM))))) (some ((-11), SM)))))))))
theorem wv_X12_shift : zWV RX12 yX12_shift cX12_shift 7 (some .int) 5 := ⟨wd_52_20, wd_52_21, wd_1_5, wd_52_22, by decide +kernel⟩
def rm_X12_shift : Room := { frames := 2, cells := 0, slots := 0, locals := 44 }
set_option maxHeartbeats 4000000 in
set_option maxRecDepth 100000 in
theorem c_X12_shift {l : Launch} {G : va_G} {ct : Nat → ClassId} {aM : Nat → Nat} {N : Nat} {SM : zMS} {a1 : Int32} {a2 : Int32} {a3 : Int32} {a4 : Int32} {a5 : Int32} {r0 : Int32} {OM : zMS} (hf : f_X12_shift N SM a1 a2 a3 a4 a5 = some (r0, OM)) : zC l yX12_shift cX12_shift 7 (some .int) rm_X12_shift G ct [.ref (aM 200), .int a1, .int a2, .int a3, .int a4, .int a5] [wM aM ct SM] [wM aM ct OM] (some (.int r0)) 0 0 := by
  refine z_enter (own := RX12) (lv := [(0, .ref (aM 200)), (1, .int a1), (2, .int a2), (3, .int a3), (4, .int a4), (5, .int a5)]) (by decide) rfl (Nat.le_of_ble_eq_true rfl) rfl ?_
  intro p e s m args below meth c A E hr hnm
  have L141 : ∀ (n141 : Nat) (SM : zMS) (x3 : Int32) (x4 : Int32) (x5 : Int32) (x6 : Int32), f_X12_shift_l141 N n141 SM x3 x4 x5 x6 = some (r0, OM) → zJ p l e rm_X12_shift s m args below meth c (zQ G ct (some (.int r0)) [wM aM ct OM] A below args s 0 0) A G 7 0 0 [wM aM ct SM] [(0, .ref (aM 200)), (3, .int x3), (4, .int x4), (5, .int x5), (6, .int x6)] 141 [] := by
    intro n141
    induction n141 with
    | zero =>
      intro SM x3 x4 x5 x6 hf
      rw [f_X12_shift_l141_z] at hf
      cases hf
    | succ n141 ih141 =>
      intro SM x3 x4 x5 x6 hf
      rw [f_X12_shift_l141_s] at hf
      refine z_iload (pc := 141) (k0 := 4) E dX12_shift_141 rfl ?_
      refine z_iload (pc := 143) (k0 := 3) E dX12_shift_143 rfl ?_
      refine z_icmp_ge (pc := 145) (tgt := 176) E dX12_shift_145 (by decide) (fun c31 => ?_) (fun c31 => ?_)
      · have hf := kB_t hf c31
        refine z_iload (pc := 176) (k0 := 3) E dX12_shift_176 rfl ?_
        cases hf
        exact z_iret E hr dX12_shift_178
      · have hf := kB_f hf c31
        refine z_aload_n (pc := 148) (k0 := 0) E dX12_shift_148 rfl rfl ?_
        refine gM_74 (pc := 149) (i := 0) E rfl wd_6_21 dX12_shift_149 ?_
        refine z_bipush (pc := 152) (v := 60) E dX12_shift_152 (by decide) ?_
        refine z_iload_n (pc := 154) (k0 := 1) E dX12_shift_154 rfl rfl ?_
        obtain ⟨v32, e_v32, hf⟩ := kL_e hf
        refine z_imul (pc := 155) (v := v32) E dX12_shift_155 e_v32 ?_
        refine z_iload (pc := 156) (k0 := 2) E dX12_shift_156 rfl ?_
        obtain ⟨v33, e_v33, hf⟩ := kL_e hf
        refine z_iadd (pc := 158) (v := v33) E dX12_shift_158 e_v33 ?_
        refine z_iload (pc := 159) (k0 := 4) E dX12_shift_159 rfl ?_
        obtain ⟨v34, e_v34, hf⟩ := kL_e hf
        refine z_iadd (pc := 161) (v := v34) E dX12_shift_161 e_v34 ?_
        refine z_aload_n (pc := 162) (k0 := 0) E dX12_shift_162 rfl rfl ?_
        refine gM_75 (pc := 163) (i := 0) E rfl wd_6_22 dX12_shift_163 ?_
        refine z_iload (pc := 166) (k0 := 4) E dX12_shift_166 rfl ?_
        obtain ⟨c35, hf⟩ := kO_e hf
        refine lM_75 (pc := 168) (i := 0) E rfl c35 dX12_shift_168 ?_
        obtain ⟨c36, hf⟩ := kO_e hf
        obtain ⟨SM_37, e_SM_37, hf⟩ := kL_e hf
        refine sM_74 (pc := 169) (i := 0) (S1 := SM_37) E rfl c36 e_SM_37 dX12_shift_169 ?_
        show zJ p l e rm_X12_shift s m args below meth c (zQ G ct (some (.int r0)) [wM aM ct OM] A below args s 0 0) A G 7 0 0 [wM aM ct SM_37] [(0, .ref (aM 200)), (3, .int x3), (4, .int x4), (5, .int x5), (6, .int x6)] 170 []
        obtain ⟨v38, e_v38, hf⟩ := kL_e hf
        refine z_iinc (pc := 170) (k0 := 4) (v := v38) (lv' := [(6, .int v38), (0, .ref (aM 200)), (3, .int x3), (4, .int x4), (5, .int x5)]) E dX12_shift_170 rfl e_v38 (by decide) rfl ?_
        refine z_goto (pc := 173) (tgt := 141) E dX12_shift_173 (by decide) ?_
        refine z_sub [1, 2, 3, 4, 0] (lv' := [(0, .ref (aM 200)), (3, .int x3), (4, .int x4), (5, .int x5), (6, .int v38)]) rfl ?_
        exact ih141 SM_37 x3 x4 x5 v38 hf
  have L104 : ∀ (n104 : Nat) (SM : zMS) (x1 : Int32) (x2 : Int32) (x3 : Int32) (x4 : Int32) (x5 : Int32) (x6 : Int32), f_X12_shift_l104 N n104 SM x1 x2 x3 x4 x5 x6 = some (r0, OM) → zJ p l e rm_X12_shift s m args below meth c (zQ G ct (some (.int r0)) [wM aM ct OM] A below args s 0 0) A G 7 0 0 [wM aM ct SM] [(0, .ref (aM 200)), (1, .int x1), (2, .int x2), (3, .int x3), (4, .int x4), (5, .int x5), (6, .int x6)] 104 [] := by
    intro n104
    induction n104 with
    | zero =>
      intro SM x1 x2 x3 x4 x5 x6 hf
      rw [f_X12_shift_l104_z] at hf
      cases hf
    | succ n104 ih104 =>
      intro SM x1 x2 x3 x4 x5 x6 hf
      rw [f_X12_shift_l104_s] at hf
      refine z_iload (pc := 104) (k0 := 6) E dX12_shift_104 rfl ?_
      refine z_iload (pc := 106) (k0 := 5) E dX12_shift_106 rfl ?_
      refine z_icmp_ge (pc := 108) (tgt := 138) E dX12_shift_108 (by decide) (fun c23 => ?_) (fun c23 => ?_)
      · have hf := kB_t hf c23
        refine z_iconst (pc := 138) (v := 0) E dX12_shift_138 (by decide) ?_
        refine z_istore (pc := 139) (lv' := [(6, .int 0), (0, .ref (aM 200)), (1, .int x1), (2, .int x2), (3, .int x3), (4, .int x4), (5, .int x5)]) E dX12_shift_139 (by decide) rfl ?_
        refine z_sub [1, 4, 5, 6, 0] (lv' := [(0, .ref (aM 200)), (3, .int x3), (4, .int x4), (5, .int x5), (6, .int 0)]) rfl ?_
        exact L141 N SM x3 x4 x5 0 hf
      · have hf := kB_f hf c23
        refine z_aload_n (pc := 111) (k0 := 0) E dX12_shift_111 rfl rfl ?_
        refine gM_75 (pc := 112) (i := 0) E rfl wd_6_22 dX12_shift_112 ?_
        refine z_iload (pc := 115) (k0 := 6) E dX12_shift_115 rfl ?_
        refine z_aload_n (pc := 117) (k0 := 0) E dX12_shift_117 rfl rfl ?_
        refine gM_74 (pc := 118) (i := 0) E rfl wd_6_21 dX12_shift_118 ?_
        refine z_bipush (pc := 121) (v := 60) E dX12_shift_121 (by decide) ?_
        refine z_iload_n (pc := 123) (k0 := 1) E dX12_shift_123 rfl rfl ?_
        obtain ⟨v24, e_v24, hf⟩ := kL_e hf
        refine z_imul (pc := 124) (v := v24) E dX12_shift_124 e_v24 ?_
        refine z_iload_n (pc := 125) (k0 := 2) E dX12_shift_125 rfl rfl ?_
        obtain ⟨v25, e_v25, hf⟩ := kL_e hf
        refine z_iadd (pc := 126) (v := v25) E dX12_shift_126 e_v25 ?_
        refine z_iload (pc := 127) (k0 := 6) E dX12_shift_127 rfl ?_
        obtain ⟨v26, e_v26, hf⟩ := kL_e hf
        refine z_iadd (pc := 129) (v := v26) E dX12_shift_129 e_v26 ?_
        obtain ⟨c27, hf⟩ := kO_e hf
        refine lM_74 (pc := 130) (i := 0) E rfl c27 dX12_shift_130 ?_
        obtain ⟨c28, hf⟩ := kO_e hf
        obtain ⟨SM_29, e_SM_29, hf⟩ := kL_e hf
        refine sM_75 (pc := 131) (i := 0) (S1 := SM_29) E rfl c28 e_SM_29 dX12_shift_131 ?_
        show zJ p l e rm_X12_shift s m args below meth c (zQ G ct (some (.int r0)) [wM aM ct OM] A below args s 0 0) A G 7 0 0 [wM aM ct SM_29] [(0, .ref (aM 200)), (1, .int x1), (2, .int x2), (3, .int x3), (4, .int x4), (5, .int x5), (6, .int x6)] 132 []
        obtain ⟨v30, e_v30, hf⟩ := kL_e hf
        refine z_iinc (pc := 132) (k0 := 6) (v := v30) (lv' := [(6, .int v30), (0, .ref (aM 200)), (1, .int x1), (2, .int x2), (3, .int x3), (4, .int x4), (5, .int x5)]) E dX12_shift_132 rfl e_v30 (by decide) rfl ?_
        refine z_goto (pc := 135) (tgt := 104) E dX12_shift_135 (by decide) ?_
        refine z_sub [1, 2, 3, 4, 5, 6, 0] (lv' := [(0, .ref (aM 200)), (1, .int x1), (2, .int x2), (3, .int x3), (4, .int x4), (5, .int x5), (6, .int v30)]) rfl ?_
        exact ih104 SM_29 x1 x2 x3 x4 x5 v30 hf
  unfold f_X12_shift at hf
  refine z_aload_n (pc := 0) (k0 := 0) E dX12_shift_0 rfl rfl ?_
  refine z_iload_n (pc := 1) (k0 := 1) E dX12_shift_1 rfl rfl ?_
  obtain ⟨r1, h2, hf⟩ := kC_e hf
  refine z_callV0 (pc := 2) (is := [0]) (n := 1) (As := [.int a1]) (st := []) (st' := [.int r1]) (C2 := [wM aM ct SM]) E (c_X12_isTape (l := l) (G := G) (ct := ct) (aM := aM) h2) wv_X12_isTape wd_43_7 ⟨Nat.le_of_ble_eq_true rfl, Nat.le_of_ble_eq_true rfl, Nat.le_of_ble_eq_true rfl, Nat.le_of_ble_eq_true rfl⟩ rfl rfl rfl (by decide) rfl rfl (zrM (j := 0) rfl) rfl (Nat.le_of_ble_eq_true rfl) dX12_shift_2 rfl rfl ?_
  refine z_if_eq (pc := 5) (tgt := 16) E dX12_shift_5 (by decide) (fun c3 => ?_) (fun c3 => ?_)
  · have hf := kB_t hf c3
    refine z_iconst (pc := 16) (v := (-1)) E dX12_shift_16 (by decide) ?_
    cases hf
    exact z_iret E hr dX12_shift_17
  · have hf := kB_f hf c3
    refine z_aload_n (pc := 8) (k0 := 0) E dX12_shift_8 rfl rfl ?_
    refine z_iload_n (pc := 9) (k0 := 3) E dX12_shift_9 rfl rfl ?_
    obtain ⟨r4, h5, hf⟩ := kC_e hf
    refine z_callV0 (pc := 10) (is := [0]) (n := 1) (As := [.int a3]) (st := []) (st' := [.int r4]) (C2 := [wM aM ct SM]) E (c_X12_isTape (l := l) (G := G) (ct := ct) (aM := aM) h5) wv_X12_isTape wd_43_7 ⟨Nat.le_of_ble_eq_true rfl, Nat.le_of_ble_eq_true rfl, Nat.le_of_ble_eq_true rfl, Nat.le_of_ble_eq_true rfl⟩ rfl rfl rfl (by decide) rfl rfl (zrM (j := 0) rfl) rfl (Nat.le_of_ble_eq_true rfl) dX12_shift_10 rfl rfl ?_
    refine z_if_ne (pc := 13) (tgt := 18) E dX12_shift_13 (by decide) (fun c6 => ?_) (fun c6 => ?_)
    · have hf := kB_f hf c6
      refine z_aload_n (pc := 18) (k0 := 0) E dX12_shift_18 rfl rfl ?_
      refine gM_72 (pc := 19) (i := 0) E rfl wd_6_19 dX12_shift_19 ?_
      refine z_iload_n (pc := 22) (k0 := 1) E dX12_shift_22 rfl rfl ?_
      obtain ⟨c7, hf⟩ := kO_e hf
      refine lM_72 (pc := 23) (i := 0) E rfl c7 dX12_shift_23 ?_
      refine z_if_lt (pc := 24) (tgt := 36) E dX12_shift_24 (by decide) (fun c8 => ?_) (fun c8 => ?_)
      · have hf := kB_t hf c8
        refine z_bipush (pc := 36) (v := (-11)) E dX12_shift_36 (by decide) ?_
        cases hf
        exact z_iret E hr dX12_shift_38
      · have hf := kB_f hf c8
        refine z_aload_n (pc := 27) (k0 := 0) E dX12_shift_27 rfl rfl ?_
        refine gM_72 (pc := 28) (i := 0) E rfl wd_6_19 dX12_shift_28 ?_
        refine z_iload_n (pc := 31) (k0 := 3) E dX12_shift_31 rfl rfl ?_
        obtain ⟨c9, hf⟩ := kO_e hf
        refine lM_72 (pc := 32) (i := 0) E rfl c9 dX12_shift_32 ?_
        refine z_if_ge (pc := 33) (tgt := 39) E dX12_shift_33 (by decide) (fun c10 => ?_) (fun c10 => ?_)
        · have hf := kB_t hf c10
          refine z_aload_n (pc := 39) (k0 := 0) E dX12_shift_39 rfl rfl ?_
          refine gM_72 (pc := 40) (i := 0) E rfl wd_6_19 dX12_shift_40 ?_
          refine z_iload_n (pc := 43) (k0 := 1) E dX12_shift_43 rfl rfl ?_
          obtain ⟨c11, hf⟩ := kO_e hf
          refine lM_72 (pc := 44) (i := 0) E rfl c11 dX12_shift_44 ?_
          refine z_aload_n (pc := 45) (k0 := 0) E dX12_shift_45 rfl rfl ?_
          refine gM_72 (pc := 46) (i := 0) E rfl wd_6_19 dX12_shift_46 ?_
          refine z_iload_n (pc := 49) (k0 := 3) E dX12_shift_49 rfl rfl ?_
          obtain ⟨c12, hf⟩ := kO_e hf
          refine lM_72 (pc := 50) (i := 0) E rfl c12 dX12_shift_50 ?_
          refine z_icmp_eq (pc := 51) (tgt := 57) E dX12_shift_51 (by decide) (fun c13 => ?_) (fun c13 => ?_)
          · have hf := kB_t hf c13
            refine z_iload (pc := 57) (k0 := 5) E dX12_shift_57 rfl ?_
            refine z_if_lt (pc := 59) (tgt := 98) E dX12_shift_59 (by decide) (fun c14 => ?_) (fun c14 => ?_)
            · have hf := kB_t hf c14
              refine z_bipush (pc := 98) (v := (-13)) E dX12_shift_98 (by decide) ?_
              cases hf
              exact z_iret E hr dX12_shift_100
            · have hf := kB_f hf c14
              refine z_iload_n (pc := 62) (k0 := 2) E dX12_shift_62 rfl rfl ?_
              refine z_if_lt (pc := 63) (tgt := 98) E dX12_shift_63 (by decide) (fun c15 => ?_) (fun c15 => ?_)
              · have hf := kB_t hf c15
                refine z_bipush (pc := 98) (v := (-13)) E dX12_shift_98 (by decide) ?_
                cases hf
                exact z_iret E hr dX12_shift_100
              · have hf := kB_f hf c15
                refine z_iload (pc := 66) (k0 := 4) E dX12_shift_66 rfl ?_
                refine z_if_lt (pc := 68) (tgt := 98) E dX12_shift_68 (by decide) (fun c16 => ?_) (fun c16 => ?_)
                · have hf := kB_t hf c16
                  refine z_bipush (pc := 98) (v := (-13)) E dX12_shift_98 (by decide) ?_
                  cases hf
                  exact z_iret E hr dX12_shift_100
                · have hf := kB_f hf c16
                  refine z_iload_n (pc := 71) (k0 := 2) E dX12_shift_71 rfl rfl ?_
                  refine z_aload_n (pc := 72) (k0 := 0) E dX12_shift_72 rfl rfl ?_
                  refine gM_73 (pc := 73) (i := 0) E rfl wd_6_20 dX12_shift_73 ?_
                  refine z_iload_n (pc := 76) (k0 := 1) E dX12_shift_76 rfl rfl ?_
                  obtain ⟨c17, hf⟩ := kO_e hf
                  refine lM_73 (pc := 77) (i := 0) E rfl c17 dX12_shift_77 ?_
                  refine z_iload (pc := 78) (k0 := 5) E dX12_shift_78 rfl ?_
                  obtain ⟨v18, e_v18, hf⟩ := kL_e hf
                  refine z_isub (pc := 80) (v := v18) E dX12_shift_80 e_v18 ?_
                  refine z_icmp_gt (pc := 81) (tgt := 98) E dX12_shift_81 (by decide) (fun c19 => ?_) (fun c19 => ?_)
                  · have hf := kB_t hf c19
                    refine z_bipush (pc := 98) (v := (-13)) E dX12_shift_98 (by decide) ?_
                    cases hf
                    exact z_iret E hr dX12_shift_100
                  · have hf := kB_f hf c19
                    refine z_iload (pc := 84) (k0 := 4) E dX12_shift_84 rfl ?_
                    refine z_aload_n (pc := 86) (k0 := 0) E dX12_shift_86 rfl rfl ?_
                    refine gM_73 (pc := 87) (i := 0) E rfl wd_6_20 dX12_shift_87 ?_
                    refine z_iload_n (pc := 90) (k0 := 3) E dX12_shift_90 rfl rfl ?_
                    obtain ⟨c20, hf⟩ := kO_e hf
                    refine lM_73 (pc := 91) (i := 0) E rfl c20 dX12_shift_91 ?_
                    refine z_iload (pc := 92) (k0 := 5) E dX12_shift_92 rfl ?_
                    obtain ⟨v21, e_v21, hf⟩ := kL_e hf
                    refine z_isub (pc := 94) (v := v21) E dX12_shift_94 e_v21 ?_
                    refine z_icmp_le (pc := 95) (tgt := 101) E dX12_shift_95 (by decide) (fun c22 => ?_) (fun c22 => ?_)
                    · have hf := kB_t hf c22
                      refine z_iconst (pc := 101) (v := 0) E dX12_shift_101 (by decide) ?_
                      refine z_istore (pc := 102) (lv' := [(6, .int 0), (0, .ref (aM 200)), (1, .int a1), (2, .int a2), (3, .int a3), (4, .int a4), (5, .int a5)]) E dX12_shift_102 (by decide) rfl ?_
                      refine z_sub [1, 2, 3, 4, 5, 6, 0] (lv' := [(0, .ref (aM 200)), (1, .int a1), (2, .int a2), (3, .int a3), (4, .int a4), (5, .int a5), (6, .int 0)]) rfl ?_
                      exact L104 N SM a1 a2 a3 a4 a5 0 hf
                    · have hf := kB_f hf c22
                      refine z_bipush (pc := 98) (v := (-13)) E dX12_shift_98 (by decide) ?_
                      cases hf
                      exact z_iret E hr dX12_shift_100
          · have hf := kB_f hf c13
            refine z_bipush (pc := 54) (v := (-12)) E dX12_shift_54 (by decide) ?_
            cases hf
            exact z_iret E hr dX12_shift_56
        · have hf := kB_f hf c10
          refine z_bipush (pc := 36) (v := (-11)) E dX12_shift_36 (by decide) ?_
          cases hf
          exact z_iret E hr dX12_shift_38
    · have hf := kB_t hf c6
      refine z_iconst (pc := 16) (v := (-1)) E dX12_shift_16 (by decide) ?_
      cases hf
      exact z_iret E hr dX12_shift_17
