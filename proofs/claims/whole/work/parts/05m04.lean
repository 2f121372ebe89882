noncomputable def f_X12_isOver (N : Nat) (SM : zMS) : Option Int32 := kC (f_X12_how N SM) (fun r1 => kB (r1 = 0) (kB ((SM.1 0) = 0) (some (1)) (kB ((SM.1 34) < 0) (some (0)) (kB ((SM.1 0) = 1) (some (1)) (some (0))))) (some (1)))
theorem wv_X12_isOver : zWV RX12 yX12_isOver cX12_isOver 1 (some .boolean) 0 := ⟨wd_30_13, wd_30_14, wd_1_5, wd_30_15, by decide +kernel⟩
def rm_X12_isOver : Room := { frames := 4, cells := 0, slots := 0, locals := 84 }
set_option maxHeartbeats 4000000 in
set_option maxRecDepth 100000 in
theorem c_X12_isOver {l : Launch} {G : va_G} {ct : Nat → ClassId} {aM : Nat → Nat} {N : Nat} {SM : zMS} {r0 : Int32} (hf : f_X12_isOver N SM = some r0) : zC l yX12_isOver cX12_isOver 1 (some .boolean) rm_X12_isOver G ct [.ref (aM 200)] [wM aM ct SM] [wM aM ct SM] (some (.int r0)) 0 0 := by
  refine z_enter (own := RX12) (lv := [(0, .ref (aM 200))]) (by decide) rfl (Nat.le_of_ble_eq_true rfl) rfl ?_
  intro p e s m args below meth c A E hr hnm
  unfold f_X12_isOver at hf
  refine z_aload_n (pc := 0) (k0 := 0) E dX12_isOver_0 rfl rfl ?_
  obtain ⟨r1, h2, hf⟩ := kC_e hf
  refine z_callV0 (pc := 1) (is := [0]) (n := 0) (As := []) (st := []) (st' := [.int r1]) (C2 := [wM aM ct SM]) E (c_X12_how (l := l) (G := G) (ct := ct) (aM := aM) h2) wv_X12_how wd_29_15 ⟨Nat.le_of_ble_eq_true rfl, Nat.le_of_ble_eq_true rfl, Nat.le_of_ble_eq_true rfl, Nat.le_of_ble_eq_true rfl⟩ rfl rfl rfl (by decide) rfl rfl (zrM (j := 0) rfl) rfl (Nat.le_of_ble_eq_true rfl) dX12_isOver_1 rfl rfl ?_
  refine z_if_ne (pc := 4) (tgt := 29) E dX12_isOver_4 (by decide) (fun c3 => ?_) (fun c3 => ?_)
  · have hf := kB_f hf c3
    refine z_iconst (pc := 29) (v := 1) E dX12_isOver_29 (by decide) ?_
    refine z_goto (pc := 30) (tgt := 34) E dX12_isOver_30 (by decide) ?_
    cases hf
    exact z_zret E hr (by decide) dX12_isOver_34
  · have hf := kB_t hf c3
    refine z_aload_n (pc := 7) (k0 := 0) E dX12_isOver_7 rfl rfl ?_
    refine gM_0 (pc := 8) (i := 0) E rfl wd_3_19 dX12_isOver_8 ?_
    refine z_if_eq (pc := 11) (tgt := 29) E dX12_isOver_11 (by decide) (fun c4 => ?_) (fun c4 => ?_)
    · have hf := kB_t hf c4
      refine z_iconst (pc := 29) (v := 1) E dX12_isOver_29 (by decide) ?_
      refine z_goto (pc := 30) (tgt := 34) E dX12_isOver_30 (by decide) ?_
      cases hf
      exact z_zret E hr (by decide) dX12_isOver_34
    · have hf := kB_f hf c4
      refine z_aload_n (pc := 14) (k0 := 0) E dX12_isOver_14 rfl rfl ?_
      refine gM_34 (pc := 15) (i := 0) E rfl wd_5_5 dX12_isOver_15 ?_
      refine z_if_lt (pc := 18) (tgt := 33) E dX12_isOver_18 (by decide) (fun c5 => ?_) (fun c5 => ?_)
      · have hf := kB_t hf c5
        refine z_iconst (pc := 33) (v := 0) E dX12_isOver_33 (by decide) ?_
        cases hf
        exact z_zret E hr (by decide) dX12_isOver_34
      · have hf := kB_f hf c5
        refine z_aload_n (pc := 21) (k0 := 0) E dX12_isOver_21 rfl rfl ?_
        refine gM_0 (pc := 22) (i := 0) E rfl wd_3_19 dX12_isOver_22 ?_
        refine z_iconst (pc := 25) (v := 1) E dX12_isOver_25 (by decide) ?_
        refine z_icmp_ne (pc := 26) (tgt := 33) E dX12_isOver_26 (by decide) (fun c6 => ?_) (fun c6 => ?_)
        · have hf := kB_f hf c6
          refine z_iconst (pc := 33) (v := 0) E dX12_isOver_33 (by decide) ?_
          cases hf
          exact z_zret E hr (by decide) dX12_isOver_34
        · have hf := kB_t hf c6
          refine z_iconst (pc := 29) (v := 1) E dX12_isOver_29 (by decide) ?_
          refine z_goto (pc := 30) (tgt := 34) E dX12_isOver_30 (by decide) ?_
          cases hf
          exact z_zret E hr (by decide) dX12_isOver_34
noncomputable def f_X12_goAsk_b23 (N : Nat) (SM : zMS) (x1 : Int32) : Option (Int32 × zMS) := kD (f_X12_asks N SM x1 (SM.1 7)) (fun r5 SM_6 => kC (f_X12_nextOf SM_6 (SM_6.1 7)) (fun r8 => kL (mSI SM_6 7 r8) (fun SM_10 => kO (r5 = 0 ∨ r5 = 1) (some (r5, SM_10)))))
noncomputable def f_X12_goAsk (N : Nat) (SM : zMS) (a1 : Int32) : Option (Int32 × zMS) := kB ((SM.1 7) = (SM.1 34)) (kC (f_X12_nextOf SM (SM.1 7)) (fun r2 => kL (mSI SM 7 r2) (fun SM_4 => f_X12_goAsk_b23 N SM_4 a1))) (f_X12_goAsk_b23 N SM a1)
theorem wv_X12_goAsk : zWV RX12 yX12_goAsk cX12_goAsk 3 (some .boolean) 1 := ⟨wd_30_17, wd_30_18, wd_1_5, wd_30_19, by decide +kernel⟩
def rm_X12_goAsk : Room := { frames := 6, cells := 0, slots := 0, locals := 130 }
set_option maxHeartbeats 4000000 in
set_option maxRecDepth 100000 in
theorem c_X12_goAsk {l : Launch} {G : va_G} {ct : Nat → ClassId} {aM : Nat → Nat} {N : Nat} {SM : zMS} {a1 : Int32} {r0 : Int32} {OM : zMS} (hf : f_X12_goAsk N SM a1 = some (r0, OM)) : zC l yX12_goAsk cX12_goAsk 3 (some .boolean) rm_X12_goAsk G ct [.ref (aM 200), .int a1] [wM aM ct SM] [wM aM ct OM] (some (.int r0)) 0 0 := by
  refine z_enter (own := RX12) (lv := [(0, .ref (aM 200)), (1, .int a1)]) (by decide) rfl (Nat.le_of_ble_eq_true rfl) rfl ?_
  intro p e s m args below meth c A E hr hnm
  have B23 : ∀ (SM : zMS) (x1 : Int32), f_X12_goAsk_b23 N SM x1 = some (r0, OM) → zJ p l e rm_X12_goAsk s m args below meth c (zQ G ct (some (.int r0)) [wM aM ct OM] A below args s 0 0) A G 3 0 0 [wM aM ct SM] [(0, .ref (aM 200)), (1, .int x1)] 23 [] := by
    intro SM x1 hf
    unfold f_X12_goAsk_b23 at hf
    refine z_aload_n (pc := 23) (k0 := 0) E dX12_goAsk_23 rfl rfl ?_
    refine z_iload_n (pc := 24) (k0 := 1) E dX12_goAsk_24 rfl rfl ?_
    refine z_aload_n (pc := 25) (k0 := 0) E dX12_goAsk_25 rfl rfl ?_
    refine gM_7 (pc := 26) (i := 0) E rfl wd_4_2 dX12_goAsk_26 ?_
    obtain ⟨r5, SM_6, h7, hf⟩ := kD_e hf
    refine z_callV0 (pc := 29) (is := [0]) (n := 2) (As := [.int x1, .int (SM.1 7)]) (st := []) (st' := [.int r5]) (C2 := [wM aM ct SM_6]) E (c_X12_asks (l := l) (G := G) (ct := ct) (aM := aM) h7) wv_X12_asks wd_31_0 ⟨Nat.le_of_ble_eq_true rfl, Nat.le_of_ble_eq_true rfl, Nat.le_of_ble_eq_true rfl, Nat.le_of_ble_eq_true rfl⟩ rfl rfl rfl (by decide) rfl rfl (zrM (j := 0) rfl) rfl (Nat.le_of_ble_eq_true rfl) dX12_goAsk_29 rfl rfl ?_
    refine z_istore_n (pc := 32) (lv' := [(2, .int r5), (0, .ref (aM 200)), (1, .int x1)]) E dX12_goAsk_32 rfl (by decide) rfl ?_
    refine z_aload_n (pc := 33) (k0 := 1) E dX12_goAsk_33 rfl rfl ?_
    refine z_aload_n (pc := 34) (k0 := 1) E dX12_goAsk_34 rfl rfl ?_
    refine z_aload_n (pc := 35) (k0 := 1) E dX12_goAsk_35 rfl rfl ?_
    refine gM_7 (pc := 36) (i := 0) E rfl wd_4_2 dX12_goAsk_36 ?_
    obtain ⟨r8, h9, hf⟩ := kC_e hf
    refine z_callV0 (pc := 39) (is := [0]) (n := 1) (As := [.int (SM_6.1 7)]) (st := [.ref (aM 200)]) (st' := [.int r8, .ref (aM 200)]) (C2 := [wM aM ct SM_6]) E (c_X12_nextOf (l := l) (G := G) (ct := ct) (aM := aM) h9) wv_X12_nextOf wd_30_20 ⟨Nat.le_of_ble_eq_true rfl, Nat.le_of_ble_eq_true rfl, Nat.le_of_ble_eq_true rfl, Nat.le_of_ble_eq_true rfl⟩ rfl rfl rfl (by decide) rfl rfl (zrM (j := 0) rfl) rfl (Nat.le_of_ble_eq_true rfl) dX12_goAsk_39 rfl rfl ?_
    obtain ⟨SM_10, e_SM_10, hf⟩ := kL_e hf
    refine pM_7 (pc := 42) (i := 0) (S1 := SM_10) E rfl e_SM_10 wd_4_2 dX12_goAsk_42 ?_
    show zJ p l e rm_X12_goAsk s m args below meth c (zQ G ct (some (.int r0)) [wM aM ct OM] A below args s 0 0) A G 3 0 0 [wM aM ct SM_10] [(2, .int r5), (0, .ref (aM 200)), (1, .int x1)] 45 []
    refine z_iload_n (pc := 45) (k0 := 0) E dX12_goAsk_45 rfl rfl ?_
    obtain ⟨c11, hf⟩ := kO_e hf
    cases hf
    exact z_zret E hr c11 dX12_goAsk_46
  unfold f_X12_goAsk at hf
  refine z_aload_n (pc := 0) (k0 := 0) E dX12_goAsk_0 rfl rfl ?_
  refine gM_7 (pc := 1) (i := 0) E rfl wd_4_2 dX12_goAsk_1 ?_
  refine z_aload_n (pc := 4) (k0 := 0) E dX12_goAsk_4 rfl rfl ?_
  refine gM_34 (pc := 5) (i := 0) E rfl wd_5_5 dX12_goAsk_5 ?_
  refine z_icmp_ne (pc := 8) (tgt := 23) E dX12_goAsk_8 (by decide) (fun c1 => ?_) (fun c1 => ?_)
  · have hf := kB_f hf c1
    exact B23 SM a1 hf
  · have hf := kB_t hf c1
    refine z_aload_n (pc := 11) (k0 := 0) E dX12_goAsk_11 rfl rfl ?_
    refine z_aload_n (pc := 12) (k0 := 0) E dX12_goAsk_12 rfl rfl ?_
    refine z_aload_n (pc := 13) (k0 := 0) E dX12_goAsk_13 rfl rfl ?_
    refine gM_7 (pc := 14) (i := 0) E rfl wd_4_2 dX12_goAsk_14 ?_
    obtain ⟨r2, h3, hf⟩ := kC_e hf
    refine z_callV0 (pc := 17) (is := [0]) (n := 1) (As := [.int (SM.1 7)]) (st := [.ref (aM 200)]) (st' := [.int r2, .ref (aM 200)]) (C2 := [wM aM ct SM]) E (c_X12_nextOf (l := l) (G := G) (ct := ct) (aM := aM) h3) wv_X12_nextOf wd_30_20 ⟨Nat.le_of_ble_eq_true rfl, Nat.le_of_ble_eq_true rfl, Nat.le_of_ble_eq_true rfl, Nat.le_of_ble_eq_true rfl⟩ rfl rfl rfl (by decide) rfl rfl (zrM (j := 0) rfl) rfl (Nat.le_of_ble_eq_true rfl) dX12_goAsk_17 rfl rfl ?_
    obtain ⟨SM_4, e_SM_4, hf⟩ := kL_e hf
    refine pM_7 (pc := 20) (i := 0) (S1 := SM_4) E rfl e_SM_4 wd_4_2 dX12_goAsk_20 ?_
    show zJ p l e rm_X12_goAsk s m args below meth c (zQ G ct (some (.int r0)) [wM aM ct OM] A below args s 0 0) A G 3 0 0 [wM aM ct SM_4] [(0, .ref (aM 200)), (1, .int a1)] 23 []
    exact B23 SM_4 a1 hf
noncomputable def f_X12_ask (N : Nat) (SM : zMS) (a1 : Int32) : Option (Int32 × zMS) := kC (f_X12_isParent SM a1) (fun r1 => kB (r1 = 0) (some ((-1), SM)) (kC (f_X12_isOver N SM) (fun r4 => kB (r4 = 0) (kD (f_X12_goAsk N SM a1) (fun r7 SM_8 => kB (r7 = 0) (some (0, SM_8)) (some (1, SM_8)))) (some ((-3), SM)))))
theorem wv_X12_ask : zWV RX12 yX12_ask cX12_ask 2 (some .int) 1 := ⟨wd_30_9, wd_30_10, wd_1_5, wd_30_11, by decide +kernel⟩
def rm_X12_ask : Room := { frames := 7, cells := 0, slots := 0, locals := 152 }
set_option maxHeartbeats 4000000 in
set_option maxRecDepth 100000 in
theorem c_X12_ask {l : Launch} {G : va_G} {ct : Nat → ClassId} {aM : Nat → Nat} {N : Nat} {SM : zMS} {a1 : Int32} {r0 : Int32} {OM : zMS} (hf : f_X12_ask N SM a1 = some (r0, OM)) : zC l yX12_ask cX12_ask 2 (some .int) rm_X12_ask G ct [.ref (aM 200), .int a1] [wM aM ct SM] [wM aM ct OM] (some (.int r0)) 0 0 := by
  refine z_enter (own := RX12) (lv := [(0, .ref (aM 200)), (1, .int a1)]) (by decide) rfl (Nat.le_of_ble_eq_true rfl) rfl ?_
  intro p e s m args below meth c A E hr hnm
  unfold f_X12_ask at hf
  refine z_aload_n (pc := 0) (k0 := 0) E dX12_ask_0 rfl rfl ?_
  refine z_iload_n (pc := 1) (k0 := 1) E dX12_ask_1 rfl rfl ?_
  obtain ⟨r1, h2, hf⟩ := kC_e hf
  refine z_callV0 (pc := 2) (is := [0]) (n := 1) (As := [.int a1]) (st := []) (st' := [.int r1]) (C2 := [wM aM ct SM]) E (c_X12_isParent (l := l) (G := G) (ct := ct) (aM := aM) h2) wv_X12_isParent wd_15_13 ⟨Nat.le_of_ble_eq_true rfl, Nat.le_of_ble_eq_true rfl, Nat.le_of_ble_eq_true rfl, Nat.le_of_ble_eq_true rfl⟩ rfl rfl rfl (by decide) rfl rfl (zrM (j := 0) rfl) rfl (Nat.le_of_ble_eq_true rfl) dX12_ask_2 rfl rfl ?_
  refine z_if_ne (pc := 5) (tgt := 10) E dX12_ask_5 (by decide) (fun c3 => ?_) (fun c3 => ?_)
  · have hf := kB_f hf c3
    refine z_aload_n (pc := 10) (k0 := 0) E dX12_ask_10 rfl rfl ?_
    obtain ⟨r4, h5, hf⟩ := kC_e hf
    refine z_callV0 (pc := 11) (is := [0]) (n := 0) (As := []) (st := []) (st' := [.int r4]) (C2 := [wM aM ct SM]) E (c_X12_isOver (l := l) (G := G) (ct := ct) (aM := aM) h5) wv_X12_isOver wd_30_12 ⟨Nat.le_of_ble_eq_true rfl, Nat.le_of_ble_eq_true rfl, Nat.le_of_ble_eq_true rfl, Nat.le_of_ble_eq_true rfl⟩ rfl rfl rfl (by decide) rfl rfl (zrM (j := 0) rfl) rfl (Nat.le_of_ble_eq_true rfl) dX12_ask_11 rfl rfl ?_
    refine z_if_eq (pc := 14) (tgt := 20) E dX12_ask_14 (by decide) (fun c6 => ?_) (fun c6 => ?_)
    · have hf := kB_t hf c6
      refine z_aload_n (pc := 20) (k0 := 0) E dX12_ask_20 rfl rfl ?_
      refine z_iload_n (pc := 21) (k0 := 1) E dX12_ask_21 rfl rfl ?_
      obtain ⟨r7, SM_8, h9, hf⟩ := kD_e hf
      refine z_callV0 (pc := 22) (is := [0]) (n := 1) (As := [.int a1]) (st := []) (st' := [.int r7]) (C2 := [wM aM ct SM_8]) E (c_X12_goAsk (l := l) (G := G) (ct := ct) (aM := aM) h9) wv_X12_goAsk wd_30_16 ⟨Nat.le_of_ble_eq_true rfl, Nat.le_of_ble_eq_true rfl, Nat.le_of_ble_eq_true rfl, Nat.le_of_ble_eq_true rfl⟩ rfl rfl rfl (by decide) rfl rfl (zrM (j := 0) rfl) rfl (Nat.le_of_ble_eq_true rfl) dX12_ask_22 rfl rfl ?_
      refine z_if_eq (pc := 25) (tgt := 32) E dX12_ask_25 (by decide) (fun c10 => ?_) (fun c10 => ?_)
      · have hf := kB_t hf c10
        refine z_iconst (pc := 32) (v := 0) E dX12_ask_32 (by decide) ?_
        cases hf
        exact z_iret E hr dX12_ask_33
      · have hf := kB_f hf c10
        refine z_iconst (pc := 28) (v := 1) E dX12_ask_28 (by decide) ?_
        refine z_goto (pc := 29) (tgt := 33) E dX12_ask_29 (by decide) ?_
        cases hf
        exact z_iret E hr dX12_ask_33
    · have hf := kB_f hf c6
      refine z_bipush (pc := 17) (v := (-3)) E dX12_ask_17 (by decide) ?_
      cases hf
      exact z_iret E hr dX12_ask_19
  · have hf := kB_t hf c3
    refine z_iconst (pc := 8) (v := (-1)) E dX12_ask_8 (by decide) ?_
    cases hf
    exact z_iret E hr dX12_ask_9
noncomputable def f_X12_goNight (SM : zMS) : Option zMS := kL (mSI SM 3 0) (fun SM_1 => kL (mSI SM_1 4 0) (fun SM_2 => kL (mSI SM_2 5 0) (fun SM_3 => kL (mSI SM_3 6 0) (fun SM_4 => kL (mSI SM_4 7 0) (fun SM_5 => kL ((SM_5.1 2) + 1) (fun v6 => kL (mSI SM_5 2 v6) (fun SM_7 => some (SM_7))))))))
theorem wv_X12_goNight : zWV RX12 yX12_goNight cX12_goNight 1 none 0 := ⟨wd_31_19, wd_31_20, wd_1_5, wd_31_21, by decide +kernel⟩
def rm_X12_goNight : Room := { frames := 0, cells := 0, slots := 0, locals := 0 }
set_option maxHeartbeats 4000000 in
set_option maxRecDepth 100000 in
theorem c_X12_goNight {l : Launch} {G : va_G} {ct : Nat → ClassId} {aM : Nat → Nat} {SM : zMS} {OM : zMS} (hf : f_X12_goNight SM = some OM) : zC l yX12_goNight cX12_goNight 1 none rm_X12_goNight G ct [.ref (aM 200)] [wM aM ct SM] [wM aM ct OM] none 0 0 := by
  refine z_enter (own := RX12) (lv := [(0, .ref (aM 200))]) (by decide) rfl (Nat.le_of_ble_eq_true rfl) rfl ?_
  intro p e s m args below meth c A E hr hnm
  unfold f_X12_goNight at hf
  refine z_aload_n (pc := 0) (k0 := 0) E dX12_goNight_0 rfl rfl ?_
  refine z_iconst (pc := 1) (v := 0) E dX12_goNight_1 (by decide) ?_
  obtain ⟨SM_1, e_SM_1, hf⟩ := kL_e hf
  refine pM_3 (pc := 2) (i := 0) (S1 := SM_1) E rfl e_SM_1 wd_3_22 dX12_goNight_2 ?_
  show zJ p l e rm_X12_goNight s m args below meth c (zQ G ct none [wM aM ct OM] A below args s 0 0) A G 1 0 0 [wM aM ct SM_1] [(0, .ref (aM 200))] 5 []
  refine z_aload_n (pc := 5) (k0 := 0) E dX12_goNight_5 rfl rfl ?_
  refine z_iconst (pc := 6) (v := 0) E dX12_goNight_6 (by decide) ?_
  obtain ⟨SM_2, e_SM_2, hf⟩ := kL_e hf
  refine pM_4 (pc := 7) (i := 0) (S1 := SM_2) E rfl e_SM_2 wd_3_23 dX12_goNight_7 ?_
  show zJ p l e rm_X12_goNight s m args below meth c (zQ G ct none [wM aM ct OM] A below args s 0 0) A G 1 0 0 [wM aM ct SM_2] [(0, .ref (aM 200))] 10 []
  refine z_aload_n (pc := 10) (k0 := 0) E dX12_goNight_10 rfl rfl ?_
  refine z_iconst (pc := 11) (v := 0) E dX12_goNight_11 (by decide) ?_
  obtain ⟨SM_3, e_SM_3, hf⟩ := kL_e hf
  refine pM_5 (pc := 12) (i := 0) (S1 := SM_3) E rfl e_SM_3 wd_4_0 dX12_goNight_12 ?_
  show zJ p l e rm_X12_goNight s m args below meth c (zQ G ct none [wM aM ct OM] A below args s 0 0) A G 1 0 0 [wM aM ct SM_3] [(0, .ref (aM 200))] 15 []
  refine z_aload_n (pc := 15) (k0 := 0) E dX12_goNight_15 rfl rfl ?_
  refine z_iconst (pc := 16) (v := 0) E dX12_goNight_16 (by decide) ?_
  obtain ⟨SM_4, e_SM_4, hf⟩ := kL_e hf
  refine pM_6 (pc := 17) (i := 0) (S1 := SM_4) E rfl e_SM_4 wd_4_1 dX12_goNight_17 ?_
  show zJ p l e rm_X12_goNight s m args below meth c (zQ G ct none [wM aM ct OM] A below args s 0 0) A G 1 0 0 [wM aM ct SM_4] [(0, .ref (aM 200))] 20 []
  refine z_aload_n (pc := 20) (k0 := 0) E dX12_goNight_20 rfl rfl ?_
  refine z_iconst (pc := 21) (v := 0) E dX12_goNight_21 (by decide) ?_
  obtain ⟨SM_5, e_SM_5, hf⟩ := kL_e hf
  refine pM_7 (pc := 22) (i := 0) (S1 := SM_5) E rfl e_SM_5 wd_4_2 dX12_goNight_22 ?_
  show zJ p l e rm_X12_goNight s m args below meth c (zQ G ct none [wM aM ct OM] A below args s 0 0) A G 1 0 0 [wM aM ct SM_5] [(0, .ref (aM 200))] 25 []
  refine z_aload_n (pc := 25) (k0 := 0) E dX12_goNight_25 rfl rfl ?_
  refine z_dup (pc := 26) E dX12_goNight_26 rfl ?_
  refine gM_2 (pc := 27) (i := 0) E rfl wd_3_21 dX12_goNight_27 ?_
  refine z_iconst (pc := 30) (v := 1) E dX12_goNight_30 (by decide) ?_
  obtain ⟨v6, e_v6, hf⟩ := kL_e hf
  refine z_iadd (pc := 31) (v := v6) E dX12_goNight_31 e_v6 ?_
  obtain ⟨SM_7, e_SM_7, hf⟩ := kL_e hf
  refine pM_2 (pc := 32) (i := 0) (S1 := SM_7) E rfl e_SM_7 wd_3_21 dX12_goNight_32 ?_
  show zJ p l e rm_X12_goNight s m args below meth c (zQ G ct none [wM aM ct OM] A below args s 0 0) A G 1 0 0 [wM aM ct SM_7] [(0, .ref (aM 200))] 35 []
  cases hf
  exact z_vret E hr dX12_goNight_35
noncomputable def f_X12_night (N : Nat) (SM : zMS) : Option (Int32 × zMS) := kB ((SM.1 2) = 9999) (some ((-3), SM)) (kC (f_X12_how N SM) (fun r2 => kC (f_X12_goNight SM) (fun SM_4 => some (r2, SM_4))))
theorem wv_X12_night : zWV RX12 yX12_night cX12_night 2 (some .int) 0 := ⟨wd_31_15, wd_31_16, wd_1_5, wd_31_17, by decide +kernel⟩
def rm_X12_night : Room := { frames := 4, cells := 0, slots := 0, locals := 84 }
set_option maxHeartbeats 4000000 in
set_option maxRecDepth 100000 in
theorem c_X12_night {l : Launch} {G : va_G} {ct : Nat → ClassId} {aM : Nat → Nat} {N : Nat} {SM : zMS} {r0 : Int32} {OM : zMS} (hf : f_X12_night N SM = some (r0, OM)) : zC l yX12_night cX12_night 2 (some .int) rm_X12_night G ct [.ref (aM 200)] [wM aM ct SM] [wM aM ct OM] (some (.int r0)) 0 0 := by
  refine z_enter (own := RX12) (lv := [(0, .ref (aM 200))]) (by decide) rfl (Nat.le_of_ble_eq_true rfl) rfl ?_
  intro p e s m args below meth c A E hr hnm
  unfold f_X12_night at hf
  refine z_aload_n (pc := 0) (k0 := 0) E dX12_night_0 rfl rfl ?_
  refine gM_2 (pc := 1) (i := 0) E rfl wd_3_21 dX12_night_1 ?_
  refine z_sipush (pc := 4) (v := 9999) E dX12_night_4 (by decide) ?_
  refine z_icmp_ne (pc := 7) (tgt := 13) E dX12_night_7 (by decide) (fun c1 => ?_) (fun c1 => ?_)
  · have hf := kB_f hf c1
    refine z_aload_n (pc := 13) (k0 := 0) E dX12_night_13 rfl rfl ?_
    obtain ⟨r2, h3, hf⟩ := kC_e hf
    refine z_callV0 (pc := 14) (is := [0]) (n := 0) (As := []) (st := []) (st' := [.int r2]) (C2 := [wM aM ct SM]) E (c_X12_how (l := l) (G := G) (ct := ct) (aM := aM) h3) wv_X12_how wd_29_15 ⟨Nat.le_of_ble_eq_true rfl, Nat.le_of_ble_eq_true rfl, Nat.le_of_ble_eq_true rfl, Nat.le_of_ble_eq_true rfl⟩ rfl rfl rfl (by decide) rfl rfl (zrM (j := 0) rfl) rfl (Nat.le_of_ble_eq_true rfl) dX12_night_14 rfl rfl ?_
    refine z_istore_n (pc := 17) (lv' := [(1, .int r2), (0, .ref (aM 200))]) E dX12_night_17 rfl (by decide) rfl ?_
    refine z_aload_n (pc := 18) (k0 := 1) E dX12_night_18 rfl rfl ?_
    obtain ⟨SM_4, h5, hf⟩ := kC_e hf
    refine z_callV0 (pc := 19) (is := [0]) (n := 0) (As := []) (st := []) (st' := []) (C2 := [wM aM ct SM_4]) E (c_X12_goNight (l := l) (G := G) (ct := ct) (aM := aM) h5) wv_X12_goNight wd_31_18 ⟨Nat.le_of_ble_eq_true rfl, Nat.le_of_ble_eq_true rfl, Nat.le_of_ble_eq_true rfl, Nat.le_of_ble_eq_true rfl⟩ rfl rfl rfl (by decide) rfl rfl (zrM (j := 0) rfl) rfl (Nat.le_of_ble_eq_true rfl) dX12_night_19 rfl rfl ?_
    refine z_iload_n (pc := 22) (k0 := 0) E dX12_night_22 rfl rfl ?_
    cases hf
    exact z_iret E hr dX12_night_23
  · have hf := kB_t hf c1
    refine z_bipush (pc := 10) (v := (-3)) E dX12_night_10 (by decide) ?_
    cases hf
    exact z_iret E hr dX12_night_12
noncomputable def f_X12_will_l14 (N : Nat) (SM : zMS) : Nat → Int32 → Int32 → Int32 → Option Int32 := fun n => Nat.rec (motive := fun _ => Int32 → Int32 → Int32 → Option Int32) (fun _ _ _ => none) (fun _ ih x1 x2 x3 => kB ((SM.1 1) ≤ x3) (some (x2)) (kC (f_X12_gives N SM x3 x1) (fun r5 => kB (r5 = 0) (kL (x2 ||| 0) (fun v8 => kL (x3 + 1) (fun v9 => ih x1 v8 v9))) (kL ((1 : Int32) <<< (x3 &&& 31)) (fun v10 => kL (x2 ||| v10) (fun v11 => kL (x3 + 1) (fun v12 => ih x1 v11 v12))))))) n
theorem f_X12_will_l14_z (N : Nat) (SM : zMS) (x1 : Int32) (x2 : Int32) (x3 : Int32) : f_X12_will_l14 N SM 0 x1 x2 x3 = none := rfl
theorem f_X12_will_l14_s (N : Nat) (SM : zMS) (n : Nat) (x1 : Int32) (x2 : Int32) (x3 : Int32) : f_X12_will_l14 N SM (n + 1) x1 x2 x3 = kB ((SM.1 1) ≤ x3) (some (x2)) (kC (f_X12_gives N SM x3 x1) (fun r5 => kB (r5 = 0) (kL (x2 ||| 0) (fun v8 => kL (x3 + 1) (fun v9 => (f_X12_will_l14 N SM n) x1 v8 v9))) (kL ((1 : Int32) <<< (x3 &&& 31)) (fun v10 => kL (x2 ||| v10) (fun v11 => kL (x3 + 1) (fun v12 => (f_X12_will_l14 N SM n) x1 v11 v12)))))) := rfl
noncomputable def f_X12_will (N : Nat) (SM : zMS) (a1 : Int32) : Option Int32 := kC (f_X12_isThing SM a1) (fun r1 => kB (r1 = 0) (some ((-1))) (f_X12_will_l14 N SM N a1 0 0))
theorem wv_X12_will : zWV RX12 yX12_will cX12_will 4 (some .int) 1 := ⟨wd_32_3, wd_32_4, wd_1_5, wd_32_5, by decide +kernel⟩
def rm_X12_will : Room := { frames := 5, cells := 0, slots := 0, locals := 107 }
set_option maxHeartbeats 4000000 in
set_option maxRecDepth 100000 in
theorem c_X12_will {l : Launch} {G : va_G} {ct : Nat → ClassId} {aM : Nat → Nat} {N : Nat} {SM : zMS} {a1 : Int32} {r0 : Int32} (hf : f_X12_will N SM a1 = some r0) : zC l yX12_will cX12_will 4 (some .int) rm_X12_will G ct [.ref (aM 200), .int a1] [wM aM ct SM] [wM aM ct SM] (some (.int r0)) 0 0 := by
  refine z_enter (own := RX12) (lv := [(0, .ref (aM 200)), (1, .int a1)]) (by decide) rfl (Nat.le_of_ble_eq_true rfl) rfl ?_
  intro p e s m args below meth c A E hr hnm
  have L14 : ∀ (n14 : Nat) (x1 : Int32) (x2 : Int32) (x3 : Int32), f_X12_will_l14 N SM n14 x1 x2 x3 = some r0 → zJ p l e rm_X12_will s m args below meth c (zQ G ct (some (.int r0)) [wM aM ct SM] A below args s 0 0) A G 4 0 0 [wM aM ct SM] [(0, .ref (aM 200)), (1, .int x1), (2, .int x2), (3, .int x3)] 14 [] := by
    intro n14
    induction n14 with
    | zero =>
      intro x1 x2 x3 hf
      rw [f_X12_will_l14_z] at hf
      cases hf
    | succ n14 ih14 =>
      intro x1 x2 x3 hf
      rw [f_X12_will_l14_s] at hf
      refine z_iload_n (pc := 14) (k0 := 3) E dX12_will_14 rfl rfl ?_
      refine z_aload_n (pc := 15) (k0 := 0) E dX12_will_15 rfl rfl ?_
      refine gM_1 (pc := 16) (i := 0) E rfl wd_3_20 dX12_will_16 ?_
      refine z_icmp_ge (pc := 19) (tgt := 47) E dX12_will_19 (by decide) (fun c4 => ?_) (fun c4 => ?_)
      · have hf := kB_t hf c4
        refine z_iload_n (pc := 47) (k0 := 2) E dX12_will_47 rfl rfl ?_
        cases hf
        exact z_iret E hr dX12_will_48
      · have hf := kB_f hf c4
        refine z_iload_n (pc := 22) (k0 := 2) E dX12_will_22 rfl rfl ?_
        refine z_aload_n (pc := 23) (k0 := 0) E dX12_will_23 rfl rfl ?_
        refine z_iload_n (pc := 24) (k0 := 3) E dX12_will_24 rfl rfl ?_
        refine z_iload_n (pc := 25) (k0 := 1) E dX12_will_25 rfl rfl ?_
        obtain ⟨r5, h6, hf⟩ := kC_e hf
        refine z_callV0 (pc := 26) (is := [0]) (n := 2) (As := [.int x3, .int x1]) (st := [.int x2]) (st' := [.int r5, .int x2]) (C2 := [wM aM ct SM]) E (c_X12_gives (l := l) (G := G) (ct := ct) (aM := aM) h6) wv_X12_gives wd_15_17 ⟨Nat.le_of_ble_eq_true rfl, Nat.le_of_ble_eq_true rfl, Nat.le_of_ble_eq_true rfl, Nat.le_of_ble_eq_true rfl⟩ rfl rfl rfl (by decide) rfl rfl (zrM (j := 0) rfl) rfl (Nat.le_of_ble_eq_true rfl) dX12_will_26 rfl rfl ?_
        refine z_if_eq (pc := 29) (tgt := 38) E dX12_will_29 (by decide) (fun c7 => ?_) (fun c7 => ?_)
        · have hf := kB_t hf c7
          refine z_iconst (pc := 38) (v := 0) E dX12_will_38 (by decide) ?_
          obtain ⟨v8, e_v8, hf⟩ := kL_e hf
          refine z_ior (pc := 39) (v := v8) E dX12_will_39 e_v8 ?_
          refine z_istore_n (pc := 40) (lv' := [(2, .int v8), (0, .ref (aM 200)), (1, .int x1), (3, .int x3)]) E dX12_will_40 rfl (by decide) rfl ?_
          obtain ⟨v9, e_v9, hf⟩ := kL_e hf
          refine z_iinc (pc := 41) (k0 := 3) (v := v9) (lv' := [(3, .int v9), (2, .int v8), (0, .ref (aM 200)), (1, .int x1)]) E dX12_will_41 rfl e_v9 (by decide) rfl ?_
          refine z_goto (pc := 44) (tgt := 14) E dX12_will_44 (by decide) ?_
          refine z_sub [2, 3, 1, 0] (lv' := [(0, .ref (aM 200)), (1, .int x1), (2, .int v8), (3, .int v9)]) rfl ?_
          exact ih14 x1 v8 v9 hf
        · have hf := kB_f hf c7
          refine z_iconst (pc := 32) (v := 1) E dX12_will_32 (by decide) ?_
          refine z_iload_n (pc := 33) (k0 := 3) E dX12_will_33 rfl rfl ?_
          obtain ⟨v10, e_v10, hf⟩ := kL_e hf
          refine z_ishl (pc := 34) (v := v10) E dX12_will_34 e_v10 ?_
          refine z_goto (pc := 35) (tgt := 39) E dX12_will_35 (by decide) ?_
          obtain ⟨v11, e_v11, hf⟩ := kL_e hf
          refine z_ior (pc := 39) (v := v11) E dX12_will_39 e_v11 ?_
          refine z_istore_n (pc := 40) (lv' := [(2, .int v11), (0, .ref (aM 200)), (1, .int x1), (3, .int x3)]) E dX12_will_40 rfl (by decide) rfl ?_
          obtain ⟨v12, e_v12, hf⟩ := kL_e hf
          refine z_iinc (pc := 41) (k0 := 3) (v := v12) (lv' := [(3, .int v12), (2, .int v11), (0, .ref (aM 200)), (1, .int x1)]) E dX12_will_41 rfl e_v12 (by decide) rfl ?_
          refine z_goto (pc := 44) (tgt := 14) E dX12_will_44 (by decide) ?_
          refine z_sub [2, 3, 1, 0] (lv' := [(0, .ref (aM 200)), (1, .int x1), (2, .int v11), (3, .int v12)]) rfl ?_
          exact ih14 x1 v11 v12 hf
  unfold f_X12_will at hf
  refine z_aload_n (pc := 0) (k0 := 0) E dX12_will_0 rfl rfl ?_
  refine z_iload_n (pc := 1) (k0 := 1) E dX12_will_1 rfl rfl ?_
  obtain ⟨r1, h2, hf⟩ := kC_e hf
  refine z_callV0 (pc := 2) (is := [0]) (n := 1) (As := [.int a1]) (st := []) (st' := [.int r1]) (C2 := [wM aM ct SM]) E (c_X12_isThing (l := l) (G := G) (ct := ct) (aM := aM) h2) wv_X12_isThing wd_11_0 ⟨Nat.le_of_ble_eq_true rfl, Nat.le_of_ble_eq_true rfl, Nat.le_of_ble_eq_true rfl, Nat.le_of_ble_eq_true rfl⟩ rfl rfl rfl (by decide) rfl rfl (zrM (j := 0) rfl) rfl (Nat.le_of_ble_eq_true rfl) dX12_will_2 rfl rfl ?_
  refine z_if_ne (pc := 5) (tgt := 10) E dX12_will_5 (by decide) (fun c3 => ?_) (fun c3 => ?_)
  · have hf := kB_f hf c3
    refine z_iconst (pc := 10) (v := 0) E dX12_will_10 (by decide) ?_
    refine z_istore_n (pc := 11) (lv' := [(2, .int 0), (0, .ref (aM 200)), (1, .int a1)]) E dX12_will_11 rfl (by decide) rfl ?_
    refine z_iconst (pc := 12) (v := 0) E dX12_will_12 (by decide) ?_
    refine z_istore_n (pc := 13) (lv' := [(3, .int 0), (2, .int 0), (0, .ref (aM 200)), (1, .int a1)]) E dX12_will_13 rfl (by decide) rfl ?_
    refine z_sub [2, 3, 1, 0] (lv' := [(0, .ref (aM 200)), (1, .int a1), (2, .int 0), (3, .int 0)]) rfl ?_
    exact L14 N a1 0 0 hf
  · have hf := kB_t hf c3
    refine z_iconst (pc := 8) (v := (-1)) E dX12_will_8 (by decide) ?_
    cases hf
    exact z_iret E hr dX12_will_9
noncomputable def f_X12_save_l58 (N : Nat) : Nat → zMS → Int32 → Option zMS := fun n => Nat.rec (motive := fun _ => zMS → Int32 → Option zMS) (fun _ _ => none) (fun _ ih SM x1 => kB (7 ≤ x1) (some (SM)) (kO (¬ (x1 < 0 ∨ 7 ≤ Int32.toNatClampNeg x1)) (kO (¬ (x1 < 0 ∨ 7 ≤ Int32.toNatClampNeg x1)) (kL (mSA SM 43 (upd (SM.2.1 43) (Int32.toNatClampNeg x1) (SM.2.1 10 (Int32.toNatClampNeg x1)))) (fun SM_11 => kL (x1 + 1) (fun v12 => ih SM_11 v12)))))) n
theorem f_X12_save_l58_z (N : Nat) (SM : zMS) (x1 : Int32) : f_X12_save_l58 N 0 SM x1 = none := rfl
theorem f_X12_save_l58_s (N : Nat) (n : Nat) (SM : zMS) (x1 : Int32) : f_X12_save_l58 N (n + 1) SM x1 = kB (7 ≤ x1) (some (SM)) (kO (¬ (x1 < 0 ∨ 7 ≤ Int32.toNatClampNeg x1)) (kO (¬ (x1 < 0 ∨ 7 ≤ Int32.toNatClampNeg x1)) (kL (mSA SM 43 (upd (SM.2.1 43) (Int32.toNatClampNeg x1) (SM.2.1 10 (Int32.toNatClampNeg x1)))) (fun SM_11 => kL (x1 + 1) (fun v12 => (f_X12_save_l58 N n) SM_11 v12))))) := rfl
noncomputable def f_X12_save (N : Nat) (SM : zMS) : Option zMS := kL (mSI SM 36 (SM.1 33)) (fun SM_1 => kL (mSI SM_1 37 (SM_1.1 2)) (fun SM_2 => kL (mSI SM_2 38 (SM_2.1 3)) (fun SM_3 => kL (mSI SM_3 39 (SM_3.1 4)) (fun SM_4 => kL (mSI SM_4 40 (SM_4.1 5)) (fun SM_5 => kL (mSI SM_5 41 (SM_5.1 6)) (fun SM_6 => kL (mSI SM_6 42 (SM_6.1 7)) (fun SM_7 => f_X12_save_l58 N N SM_7 0)))))))
theorem wv_X12_save : zWV RX12 yX12_save cX12_save 2 none 0 := ⟨wd_34_6, wd_34_7, wd_1_5, wd_34_8, by decide +kernel⟩
def rm_X12_save : Room := { frames := 0, cells := 0, slots := 0, locals := 0 }
set_option maxHeartbeats 4000000 in
set_option maxRecDepth 100000 in
theorem c_X12_save {l : Launch} {G : va_G} {ct : Nat → ClassId} {aM : Nat → Nat} {N : Nat} {SM : zMS} {OM : zMS} (hf : f_X12_save N SM = some OM) : zC l yX12_save cX12_save 2 none rm_X12_save G ct [.ref (aM 200)] [wM aM ct SM] [wM aM ct OM] none 0 0 := by
  refine z_enter (own := RX12) (lv := [(0, .ref (aM 200))]) (by decide) rfl (Nat.le_of_ble_eq_true rfl) rfl ?_
  intro p e s m args below meth c A E hr hnm
  have L58 : ∀ (n58 : Nat) (SM : zMS) (x1 : Int32), f_X12_save_l58 N n58 SM x1 = some OM → zJ p l e rm_X12_save s m args below meth c (zQ G ct none [wM aM ct OM] A below args s 0 0) A G 2 0 0 [wM aM ct SM] [(0, .ref (aM 200)), (1, .int x1)] 58 [] := by
    intro n58
    induction n58 with
    | zero =>
      intro SM x1 hf
      rw [f_X12_save_l58_z] at hf
      cases hf
    | succ n58 ih58 =>
      intro SM x1 hf
      rw [f_X12_save_l58_s] at hf
      refine z_iload_n (pc := 58) (k0 := 1) E dX12_save_58 rfl rfl ?_
      refine z_bipush (pc := 59) (v := 7) E dX12_save_59 (by decide) ?_
      refine z_icmp_ge (pc := 61) (tgt := 82) E dX12_save_61 (by decide) (fun c8 => ?_) (fun c8 => ?_)
      · have hf := kB_t hf c8
        cases hf
        exact z_vret E hr dX12_save_82
      · have hf := kB_f hf c8
        refine z_aload_n (pc := 64) (k0 := 0) E dX12_save_64 rfl rfl ?_
        refine gM_43 (pc := 65) (i := 0) E rfl wd_5_14 dX12_save_65 ?_
        refine z_iload_n (pc := 68) (k0 := 1) E dX12_save_68 rfl rfl ?_
        refine z_aload_n (pc := 69) (k0 := 0) E dX12_save_69 rfl rfl ?_
        refine gM_10 (pc := 70) (i := 0) E rfl wd_4_5 dX12_save_70 ?_
        refine z_iload_n (pc := 73) (k0 := 1) E dX12_save_73 rfl rfl ?_
        obtain ⟨c9, hf⟩ := kO_e hf
        refine lM_10 (pc := 74) (i := 0) E rfl c9 dX12_save_74 ?_
        obtain ⟨c10, hf⟩ := kO_e hf
        obtain ⟨SM_11, e_SM_11, hf⟩ := kL_e hf
        refine sM_43 (pc := 75) (i := 0) (S1 := SM_11) E rfl c10 e_SM_11 dX12_save_75 ?_
        show zJ p l e rm_X12_save s m args below meth c (zQ G ct none [wM aM ct OM] A below args s 0 0) A G 2 0 0 [wM aM ct SM_11] [(0, .ref (aM 200)), (1, .int x1)] 76 []
        obtain ⟨v12, e_v12, hf⟩ := kL_e hf
        refine z_iinc (pc := 76) (k0 := 1) (v := v12) (lv' := [(1, .int v12), (0, .ref (aM 200))]) E dX12_save_76 rfl e_v12 (by decide) rfl ?_
        refine z_goto (pc := 79) (tgt := 58) E dX12_save_79 (by decide) ?_
        refine z_sub [1, 0] (lv' := [(0, .ref (aM 200)), (1, .int v12)]) rfl ?_
        exact ih58 SM_11 v12 hf
  unfold f_X12_save at hf
  refine z_aload_n (pc := 0) (k0 := 0) E dX12_save_0 rfl rfl ?_
  refine z_aload_n (pc := 1) (k0 := 0) E dX12_save_1 rfl rfl ?_
  refine gM_33 (pc := 2) (i := 0) E rfl wd_5_4 dX12_save_2 ?_
  obtain ⟨SM_1, e_SM_1, hf⟩ := kL_e hf
  refine pM_36 (pc := 5) (i := 0) (S1 := SM_1) E rfl e_SM_1 wd_5_7 dX12_save_5 ?_
  show zJ p l e rm_X12_save s m args below meth c (zQ G ct none [wM aM ct OM] A below args s 0 0) A G 2 0 0 [wM aM ct SM_1] [(0, .ref (aM 200))] 8 []
  refine z_aload_n (pc := 8) (k0 := 0) E dX12_save_8 rfl rfl ?_
  refine z_aload_n (pc := 9) (k0 := 0) E dX12_save_9 rfl rfl ?_
  refine gM_2 (pc := 10) (i := 0) E rfl wd_3_21 dX12_save_10 ?_
  obtain ⟨SM_2, e_SM_2, hf⟩ := kL_e hf
  refine pM_37 (pc := 13) (i := 0) (S1 := SM_2) E rfl e_SM_2 wd_5_8 dX12_save_13 ?_
  show zJ p l e rm_X12_save s m args below meth c (zQ G ct none [wM aM ct OM] A below args s 0 0) A G 2 0 0 [wM aM ct SM_2] [(0, .ref (aM 200))] 16 []
  refine z_aload_n (pc := 16) (k0 := 0) E dX12_save_16 rfl rfl ?_
  refine z_aload_n (pc := 17) (k0 := 0) E dX12_save_17 rfl rfl ?_
  refine gM_3 (pc := 18) (i := 0) E rfl wd_3_22 dX12_save_18 ?_
  obtain ⟨SM_3, e_SM_3, hf⟩ := kL_e hf
  refine pM_38 (pc := 21) (i := 0) (S1 := SM_3) E rfl e_SM_3 wd_5_9 dX12_save_21 ?_
  show zJ p l e rm_X12_save s m args below meth c (zQ G ct none [wM aM ct OM] A below args s 0 0) A G 2 0 0 [wM aM ct SM_3] [(0, .ref (aM 200))] 24 []
  refine z_aload_n (pc := 24) (k0 := 0) E dX12_save_24 rfl rfl ?_
  refine z_aload_n (pc := 25) (k0 := 0) E dX12_save_25 rfl rfl ?_
  refine gM_4 (pc := 26) (i := 0) E rfl wd_3_23 dX12_save_26 ?_
  obtain ⟨SM_4, e_SM_4, hf⟩ := kL_e hf
  refine pM_39 (pc := 29) (i := 0) (S1 := SM_4) E rfl e_SM_4 wd_5_10 dX12_save_29 ?_
  show zJ p l e rm_X12_save s m args below meth c (zQ G ct none [wM aM ct OM] A below args s 0 0) A G 2 0 0 [wM aM ct SM_4] [(0, .ref (aM 200))] 32 []
  refine z_aload_n (pc := 32) (k0 := 0) E dX12_save_32 rfl rfl ?_
  refine z_aload_n (pc := 33) (k0 := 0) E dX12_save_33 rfl rfl ?_
  refine gM_5 (pc := 34) (i := 0) E rfl wd_4_0 dX12_save_34 ?_
  obtain ⟨SM_5, e_SM_5, hf⟩ := kL_e hf
  refine pM_40 (pc := 37) (i := 0) (S1 := SM_5) E rfl e_SM_5 wd_5_11 dX12_save_37 ?_
  show zJ p l e rm_X12_save s m args below meth c (zQ G ct none [wM aM ct OM] A below args s 0 0) A G 2 0 0 [wM aM ct SM_5] [(0, .ref (aM 200))] 40 []
  refine z_aload_n (pc := 40) (k0 := 0) E dX12_save_40 rfl rfl ?_
  refine z_aload_n (pc := 41) (k0 := 0) E dX12_save_41 rfl rfl ?_
  refine gM_6 (pc := 42) (i := 0) E rfl wd_4_1 dX12_save_42 ?_
  obtain ⟨SM_6, e_SM_6, hf⟩ := kL_e hf
  refine pM_41 (pc := 45) (i := 0) (S1 := SM_6) E rfl e_SM_6 wd_5_12 dX12_save_45 ?_
  show zJ p l e rm_X12_save s m args below meth c (zQ G ct none [wM aM ct OM] A below args s 0 0) A G 2 0 0 [wM aM ct SM_6] [(0, .ref (aM 200))] 48 []
  refine z_aload_n (pc := 48) (k0 := 0) E dX12_save_48 rfl rfl ?_
  refine z_aload_n (pc := 49) (k0 := 0) E dX12_save_49 rfl rfl ?_
  refine gM_7 (pc := 50) (i := 0) E rfl wd_4_2 dX12_save_50 ?_
  obtain ⟨SM_7, e_SM_7, hf⟩ := kL_e hf
  refine pM_42 (pc := 53) (i := 0) (S1 := SM_7) E rfl e_SM_7 wd_5_13 dX12_save_53 ?_
  show zJ p l e rm_X12_save s m args below meth c (zQ G ct none [wM aM ct OM] A below args s 0 0) A G 2 0 0 [wM aM ct SM_7] [(0, .ref (aM 200))] 56 []
  refine z_iconst (pc := 56) (v := 0) E dX12_save_56 (by decide) ?_
  refine z_istore_n (pc := 57) (lv' := [(1, .int 0), (0, .ref (aM 200))]) E dX12_save_57 rfl (by decide) rfl ?_
  refine z_sub [1, 0] (lv' := [(0, .ref (aM 200)), (1, .int 0)]) rfl ?_
  exact L58 N SM_7 0 hf
noncomputable def f_X12_putBack_l58 (N : Nat) : Nat → zMS → Int32 → Option zMS := fun n => Nat.rec (motive := fun _ => zMS → Int32 → Option zMS) (fun _ _ => none) (fun _ ih SM x1 => kB (7 ≤ x1) (some (SM)) (kO (¬ (x1 < 0 ∨ 7 ≤ Int32.toNatClampNeg x1)) (kO (¬ (x1 < 0 ∨ 7 ≤ Int32.toNatClampNeg x1)) (kL (mSA SM 10 (upd (SM.2.1 10) (Int32.toNatClampNeg x1) (SM.2.1 43 (Int32.toNatClampNeg x1)))) (fun SM_11 => kL (x1 + 1) (fun v12 => ih SM_11 v12)))))) n
theorem f_X12_putBack_l58_z (N : Nat) (SM : zMS) (x1 : Int32) : f_X12_putBack_l58 N 0 SM x1 = none := rfl
theorem f_X12_putBack_l58_s (N : Nat) (n : Nat) (SM : zMS) (x1 : Int32) : f_X12_putBack_l58 N (n + 1) SM x1 = kB (7 ≤ x1) (some (SM)) (kO (¬ (x1 < 0 ∨ 7 ≤ Int32.toNatClampNeg x1)) (kO (¬ (x1 < 0 ∨ 7 ≤ Int32.toNatClampNeg x1)) (kL (mSA SM 10 (upd (SM.2.1 10) (Int32.toNatClampNeg x1) (SM.2.1 43 (Int32.toNatClampNeg x1)))) (fun SM_11 => kL (x1 + 1) (fun v12 => (f_X12_putBack_l58 N n) SM_11 v12))))) := rfl
noncomputable def f_X12_putBack (N : Nat) (SM : zMS) : Option zMS := kL (mSI SM 33 (SM.1 36)) (fun SM_1 => kL (mSI SM_1 2 (SM_1.1 37)) (fun SM_2 => kL (mSI SM_2 3 (SM_2.1 38)) (fun SM_3 => kL (mSI SM_3 4 (SM_3.1 39)) (fun SM_4 => kL (mSI SM_4 5 (SM_4.1 40)) (fun SM_5 => kL (mSI SM_5 6 (SM_5.1 41)) (fun SM_6 => kL (mSI SM_6 7 (SM_6.1 42)) (fun SM_7 => f_X12_putBack_l58 N N SM_7 0)))))))
theorem wv_X12_putBack : zWV RX12 yX12_putBack cX12_putBack 2 none 0 := ⟨wd_34_14, wd_34_15, wd_1_5, wd_34_16, by decide +kernel⟩
def rm_X12_putBack : Room := { frames := 0, cells := 0, slots := 0, locals := 0 }
set_option maxHeartbeats 4000000 in
set_option maxRecDepth 100000 in
theorem c_X12_putBack {l : Launch} {G : va_G} {ct : Nat → ClassId} {aM : Nat → Nat} {N : Nat} {SM : zMS} {OM : zMS} (hf : f_X12_putBack N SM = some OM) : zC l yX12_putBack cX12_putBack 2 none rm_X12_putBack G ct [.ref (aM 200)] [wM aM ct SM] [wM aM ct OM] none 0 0 := by
  refine z_enter (own := RX12) (lv := [(0, .ref (aM 200))]) (by decide) rfl (Nat.le_of_ble_eq_true rfl) rfl ?_
  intro p e s m args below meth c A E hr hnm
  have L58 : ∀ (n58 : Nat) (SM : zMS) (x1 : Int32), f_X12_putBack_l58 N n58 SM x1 = some OM → zJ p l e rm_X12_putBack s m args below meth c (zQ G ct none [wM aM ct OM] A below args s 0 0) A G 2 0 0 [wM aM ct SM] [(0, .ref (aM 200)), (1, .int x1)] 58 [] := by
    intro n58
    induction n58 with
    | zero =>
      intro SM x1 hf
      rw [f_X12_putBack_l58_z] at hf
      cases hf
    | succ n58 ih58 =>
      intro SM x1 hf
      rw [f_X12_putBack_l58_s] at hf
      refine z_iload_n (pc := 58) (k0 := 1) E dX12_putBack_58 rfl rfl ?_
      refine z_bipush (pc := 59) (v := 7) E dX12_putBack_59 (by decide) ?_
      refine z_icmp_ge (pc := 61) (tgt := 82) E dX12_putBack_61 (by decide) (fun c8 => ?_) (fun c8 => ?_)
      · have hf := kB_t hf c8
        cases hf
        exact z_vret E hr dX12_putBack_82
      · have hf := kB_f hf c8
        refine z_aload_n (pc := 64) (k0 := 0) E dX12_putBack_64 rfl rfl ?_
        refine gM_10 (pc := 65) (i := 0) E rfl wd_4_5 dX12_putBack_65 ?_
        refine z_iload_n (pc := 68) (k0 := 1) E dX12_putBack_68 rfl rfl ?_
        refine z_aload_n (pc := 69) (k0 := 0) E dX12_putBack_69 rfl rfl ?_
        refine gM_43 (pc := 70) (i := 0) E rfl wd_5_14 dX12_putBack_70 ?_
        refine z_iload_n (pc := 73) (k0 := 1) E dX12_putBack_73 rfl rfl ?_
        obtain ⟨c9, hf⟩ := kO_e hf
        refine lM_43 (pc := 74) (i := 0) E rfl c9 dX12_putBack_74 ?_
        obtain ⟨c10, hf⟩ := kO_e hf
        obtain ⟨SM_11, e_SM_11, hf⟩ := kL_e hf
        refine sM_10 (pc := 75) (i := 0) (S1 := SM_11) E rfl c10 e_SM_11 dX12_putBack_75 ?_
        show zJ p l e rm_X12_putBack s m args below meth c (zQ G ct none [wM aM ct OM] A below args s 0 0) A G 2 0 0 [wM aM ct SM_11] [(0, .ref (aM 200)), (1, .int x1)] 76 []
        obtain ⟨v12, e_v12, hf⟩ := kL_e hf
        refine z_iinc (pc := 76) (k0 := 1) (v := v12) (lv' := [(1, .int v12), (0, .ref (aM 200))]) E dX12_putBack_76 rfl e_v12 (by decide) rfl ?_
        refine z_goto (pc := 79) (tgt := 58) E dX12_putBack_79 (by decide) ?_
        refine z_sub [1, 0] (lv' := [(0, .ref (aM 200)), (1, .int v12)]) rfl ?_
        exact ih58 SM_11 v12 hf
  unfold f_X12_putBack at hf
  refine z_aload_n (pc := 0) (k0 := 0) E dX12_putBack_0 rfl rfl ?_
  refine z_aload_n (pc := 1) (k0 := 0) E dX12_putBack_1 rfl rfl ?_
  refine gM_36 (pc := 2) (i := 0) E rfl wd_5_7 dX12_putBack_2 ?_
  obtain ⟨SM_1, e_SM_1, hf⟩ := kL_e hf
  refine pM_33 (pc := 5) (i := 0) (S1 := SM_1) E rfl e_SM_1 wd_5_4 dX12_putBack_5 ?_
  show zJ p l e rm_X12_putBack s m args below meth c (zQ G ct none [wM aM ct OM] A below args s 0 0) A G 2 0 0 [wM aM ct SM_1] [(0, .ref (aM 200))] 8 []
  refine z_aload_n (pc := 8) (k0 := 0) E dX12_putBack_8 rfl rfl ?_
  refine z_aload_n (pc := 9) (k0 := 0) E dX12_putBack_9 rfl rfl ?_
  refine gM_37 (pc := 10) (i := 0) E rfl wd_5_8 dX12_putBack_10 ?_
  obtain ⟨SM_2, e_SM_2, hf⟩ := kL_e hf
  refine pM_2 (pc := 13) (i := 0) (S1 := SM_2) E rfl e_SM_2 wd_3_21 dX12_putBack_13 ?_
  show zJ p l e rm_X12_putBack s m args below meth c (zQ G ct none [wM aM ct OM] A below args s 0 0) A G 2 0 0 [wM aM ct SM_2] [(0, .ref (aM 200))] 16 []
  refine z_aload_n (pc := 16) (k0 := 0) E dX12_putBack_16 rfl rfl ?_
  refine z_aload_n (pc := 17) (k0 := 0) E dX12_putBack_17 rfl rfl ?_
  refine gM_38 (pc := 18) (i := 0) E rfl wd_5_9 dX12_putBack_18 ?_
  obtain ⟨SM_3, e_SM_3, hf⟩ := kL_e hf
  refine pM_3 (pc := 21) (i := 0) (S1 := SM_3) E rfl e_SM_3 wd_3_22 dX12_putBack_21 ?_
  show zJ p l e rm_X12_putBack s m args below meth c (zQ G ct none [wM aM ct OM] A below args s 0 0) A G 2 0 0 [wM aM ct SM_3] [(0, .ref (aM 200))] 24 []
  refine z_aload_n (pc := 24) (k0 := 0) E dX12_putBack_24 rfl rfl ?_
  refine z_aload_n (pc := 25) (k0 := 0) E dX12_putBack_25 rfl rfl ?_
  refine gM_39 (pc := 26) (i := 0) E rfl wd_5_10 dX12_putBack_26 ?_
  obtain ⟨SM_4, e_SM_4, hf⟩ := kL_e hf
  refine pM_4 (pc := 29) (i := 0) (S1 := SM_4) E rfl e_SM_4 wd_3_23 dX12_putBack_29 ?_
  show zJ p l e rm_X12_putBack s m args below meth c (zQ G ct none [wM aM ct OM] A below args s 0 0) A G 2 0 0 [wM aM ct SM_4] [(0, .ref (aM 200))] 32 []
  refine z_aload_n (pc := 32) (k0 := 0) E dX12_putBack_32 rfl rfl ?_
  refine z_aload_n (pc := 33) (k0 := 0) E dX12_putBack_33 rfl rfl ?_
  refine gM_40 (pc := 34) (i := 0) E rfl wd_5_11 dX12_putBack_34 ?_
  obtain ⟨SM_5, e_SM_5, hf⟩ := kL_e hf
  refine pM_5 (pc := 37) (i := 0) (S1 := SM_5) E rfl e_SM_5 wd_4_0 dX12_putBack_37 ?_
  show zJ p l e rm_X12_putBack s m args below meth c (zQ G ct none [wM aM ct OM] A below args s 0 0) A G 2 0 0 [wM aM ct SM_5] [(0, .ref (aM 200))] 40 []
  refine z_aload_n (pc := 40) (k0 := 0) E dX12_putBack_40 rfl rfl ?_
  refine z_aload_n (pc := 41) (k0 := 0) E dX12_putBack_41 rfl rfl ?_
  refine gM_41 (pc := 42) (i := 0) E rfl wd_5_12 dX12_putBack_42 ?_
  obtain ⟨SM_6, e_SM_6, hf⟩ := kL_e hf
  refine pM_6 (pc := 45) (i := 0) (S1 := SM_6) E rfl e_SM_6 wd_4_1 dX12_putBack_45 ?_
  show zJ p l e rm_X12_putBack s m args below meth c (zQ G ct none [wM aM ct OM] A below args s 0 0) A G 2 0 0 [wM aM ct SM_6] [(0, .ref (aM 200))] 48 []
  refine z_aload_n (pc := 48) (k0 := 0) E dX12_putBack_48 rfl rfl ?_
  refine z_aload_n (pc := 49) (k0 := 0) E dX12_putBack_49 rfl rfl ?_
  refine gM_42 (pc := 50) (i := 0) E rfl wd_5_13 dX12_putBack_50 ?_
  obtain ⟨SM_7, e_SM_7, hf⟩ := kL_e hf
  refine pM_7 (pc := 53) (i := 0) (S1 := SM_7) E rfl e_SM_7 wd_4_2 dX12_putBack_53 ?_
  show zJ p l e rm_X12_putBack s m args below meth c (zQ G ct none [wM aM ct OM] A below args s 0 0) A G 2 0 0 [wM aM ct SM_7] [(0, .ref (aM 200))] 56 []
  refine z_iconst (pc := 56) (v := 0) E dX12_putBack_56 (by decide) ?_
  refine z_istore_n (pc := 57) (lv' := [(1, .int 0), (0, .ref (aM 200))]) E dX12_putBack_57 rfl (by decide) rfl ?_
  refine z_sub [1, 0] (lv' := [(0, .ref (aM 200)), (1, .int 0)]) rfl ?_
  exact L58 N SM_7 0 hf
noncomputable def f_X12_goAsks_l2 (N : Nat) : Nat → zMS → Int32 → Int32 → Int32 → Option (Int32 × zMS) := fun n => Nat.rec (motive := fun _ => zMS → Int32 → Int32 → Int32 → Option (Int32 × zMS)) (fun _ _ _ _ => none) (fun _ ih SM x1 x2 x3 => kB (x2 ≤ x3) (some (x3, SM)) (kC (f_X12_isOver N SM) (fun r2 => kB (r2 = 0) (kD (f_X12_goAsk N SM x1) (fun r5 SM_6 => kL (x3 + 1) (fun v8 => ih SM_6 x1 x2 v8))) (some (x3, SM))))) n
theorem f_X12_goAsks_l2_z (N : Nat) (SM : zMS) (x1 : Int32) (x2 : Int32) (x3 : Int32) : f_X12_goAsks_l2 N 0 SM x1 x2 x3 = none := rfl
theorem f_X12_goAsks_l2_s (N : Nat) (n : Nat) (SM : zMS) (x1 : Int32) (x2 : Int32) (x3 : Int32) : f_X12_goAsks_l2 N (n + 1) SM x1 x2 x3 = kB (x2 ≤ x3) (some (x3, SM)) (kC (f_X12_isOver N SM) (fun r2 => kB (r2 = 0) (kD (f_X12_goAsk N SM x1) (fun r5 SM_6 => kL (x3 + 1) (fun v8 => (f_X12_goAsks_l2 N n) SM_6 x1 x2 v8))) (some (x3, SM)))) := rfl
noncomputable def f_X12_goAsks (N : Nat) (SM : zMS) (a1 : Int32) (a2 : Int32) : Option (Int32 × zMS) := f_X12_goAsks_l2 N N SM a1 a2 0
theorem wv_X12_goAsks : zWV RX12 yX12_goAsks cX12_goAsks 5 (some .int) 2 := ⟨wd_34_10, wd_34_11, wd_1_5, wd_34_12, by decide +kernel⟩
def rm_X12_goAsks : Room := { frames := 7, cells := 0, slots := 0, locals := 152 }
set_option maxHeartbeats 4000000 in
set_option maxRecDepth 100000 in
theorem c_X12_goAsks {l : Launch} {G : va_G} {ct : Nat → ClassId} {aM : Nat → Nat} {N : Nat} {SM : zMS} {a1 : Int32} {a2 : Int32} {r0 : Int32} {OM : zMS} (hf : f_X12_goAsks N SM a1 a2 = some (r0, OM)) : zC l yX12_goAsks cX12_goAsks 5 (some .int) rm_X12_goAsks G ct [.ref (aM 200), .int a1, .int a2] [wM aM ct SM] [wM aM ct OM] (some (.int r0)) 0 0 := by
  refine z_enter (own := RX12) (lv := [(0, .ref (aM 200)), (1, .int a1), (2, .int a2)]) (by decide) rfl (Nat.le_of_ble_eq_true rfl) rfl ?_
  intro p e s m args below meth c A E hr hnm
  have L2 : ∀ (n2 : Nat) (SM : zMS) (x1 : Int32) (x2 : Int32) (x3 : Int32), f_X12_goAsks_l2 N n2 SM x1 x2 x3 = some (r0, OM) → zJ p l e rm_X12_goAsks s m args below meth c (zQ G ct (some (.int r0)) [wM aM ct OM] A below args s 0 0) A G 5 0 0 [wM aM ct SM] [(0, .ref (aM 200)), (1, .int x1), (2, .int x2), (3, .int x3)] 2 [] := by
    intro n2
    induction n2 with
    | zero =>
      intro SM x1 x2 x3 hf
      rw [f_X12_goAsks_l2_z] at hf
      cases hf
    | succ n2 ih2 =>
      intro SM x1 x2 x3 hf
      rw [f_X12_goAsks_l2_s] at hf
      refine z_iload_n (pc := 2) (k0 := 3) E dX12_goAsks_2 rfl rfl ?_
      refine z_iload_n (pc := 3) (k0 := 2) E dX12_goAsks_3 rfl rfl ?_
      refine z_icmp_ge (pc := 4) (tgt := 27) E dX12_goAsks_4 (by decide) (fun c1 => ?_) (fun c1 => ?_)
      · have hf := kB_t hf c1
        refine z_iload_n (pc := 27) (k0 := 3) E dX12_goAsks_27 rfl rfl ?_
        cases hf
        exact z_iret E hr dX12_goAsks_28
      · have hf := kB_f hf c1
        refine z_aload_n (pc := 7) (k0 := 0) E dX12_goAsks_7 rfl rfl ?_
        obtain ⟨r2, h3, hf⟩ := kC_e hf
        refine z_callV0 (pc := 8) (is := [0]) (n := 0) (As := []) (st := []) (st' := [.int r2]) (C2 := [wM aM ct SM]) E (c_X12_isOver (l := l) (G := G) (ct := ct) (aM := aM) h3) wv_X12_isOver wd_30_12 ⟨Nat.le_of_ble_eq_true rfl, Nat.le_of_ble_eq_true rfl, Nat.le_of_ble_eq_true rfl, Nat.le_of_ble_eq_true rfl⟩ rfl rfl rfl (by decide) rfl rfl (zrM (j := 0) rfl) rfl (Nat.le_of_ble_eq_true rfl) dX12_goAsks_8 rfl rfl ?_
        refine z_if_ne (pc := 11) (tgt := 27) E dX12_goAsks_11 (by decide) (fun c4 => ?_) (fun c4 => ?_)
        · have hf := kB_f hf c4
          refine z_iload_n (pc := 27) (k0 := 3) E dX12_goAsks_27 rfl rfl ?_
          cases hf
          exact z_iret E hr dX12_goAsks_28
        · have hf := kB_t hf c4
          refine z_aload_n (pc := 14) (k0 := 0) E dX12_goAsks_14 rfl rfl ?_
          refine z_iload_n (pc := 15) (k0 := 1) E dX12_goAsks_15 rfl rfl ?_
          obtain ⟨r5, SM_6, h7, hf⟩ := kD_e hf
          refine z_callV0 (pc := 16) (is := [0]) (n := 1) (As := [.int x1]) (st := []) (st' := [.int r5]) (C2 := [wM aM ct SM_6]) E (c_X12_goAsk (l := l) (G := G) (ct := ct) (aM := aM) h7) wv_X12_goAsk wd_30_16 ⟨Nat.le_of_ble_eq_true rfl, Nat.le_of_ble_eq_true rfl, Nat.le_of_ble_eq_true rfl, Nat.le_of_ble_eq_true rfl⟩ rfl rfl rfl (by decide) rfl rfl (zrM (j := 0) rfl) rfl (Nat.le_of_ble_eq_true rfl) dX12_goAsks_16 rfl rfl ?_
          refine z_istore (pc := 19) (lv' := [(4, .int r5), (0, .ref (aM 200)), (1, .int x1), (2, .int x2), (3, .int x3)]) E dX12_goAsks_19 (by decide) rfl ?_
          obtain ⟨v8, e_v8, hf⟩ := kL_e hf
          refine z_iinc (pc := 21) (k0 := 4) (v := v8) (lv' := [(3, .int v8), (4, .int r5), (0, .ref (aM 200)), (1, .int x1), (2, .int x2)]) E dX12_goAsks_21 rfl e_v8 (by decide) rfl ?_
          refine z_goto (pc := 24) (tgt := 2) E dX12_goAsks_24 (by decide) ?_
          refine z_sub [2, 3, 4, 0] (lv' := [(0, .ref (aM 200)), (1, .int x1), (2, .int x2), (3, .int v8)]) rfl ?_
          exact ih2 SM_6 x1 x2 v8 hf
  unfold f_X12_goAsks at hf
  refine z_iconst (pc := 0) (v := 0) E dX12_goAsks_0 (by decide) ?_
  refine z_istore_n (pc := 1) (lv' := [(3, .int 0), (0, .ref (aM 200)), (1, .int a1), (2, .int a2)]) E dX12_goAsks_1 rfl (by decide) rfl ?_
  refine z_sub [1, 2, 3, 0] (lv' := [(0, .ref (aM 200)), (1, .int a1), (2, .int a2), (3, .int 0)]) rfl ?_
  exact L2 N SM a1 a2 0 hf
noncomputable def f_X12_on (N : Nat) (SM : zMS) (a1 : Int32) (a2 : Int32) (a3 : Int32) : Option (Int32 × zMS) := kC (f_X12_isParent SM a1) (fun r1 => kB (r1 = 0) (some ((-1), SM)) (kC (f_X12_in SM a3 0 4) (fun r4 => kB (r4 = 0) (some ((-1), SM)) (kC (f_X12_in SM a2 0 60) (fun r7 => kB (r7 = 0) (some ((-2), SM)) (kC (f_X12_save N SM) (fun SM_10 => kD (f_X12_goAsks N SM_10 a1 a2) (fun r12 SM_13 => kB (a3 = 0) (kC (f_X12_putBack N SM_13) (fun SM_29 => some ((SM_13.1 3), SM_29))) (kB (a3 = 1) (kC (f_X12_putBack N SM_13) (fun SM_27 => some ((SM_13.1 4), SM_27))) (kB (a3 = 2) (kC (f_X12_putBack N SM_13) (fun SM_25 => some ((SM_13.1 6), SM_25))) (kB (a3 = 3) (kC (f_X12_putBack N SM_13) (fun SM_23 => some (r12, SM_23))) (kC (f_X12_how N SM_13) (fun r19 => kC (f_X12_putBack N SM_13) (fun SM_21 => some (r19, SM_21)))))))))))))))
theorem wv_X12_on : zWV RX12 yX12_on cX12_on 6 (some .int) 3 := ⟨wd_34_2, wd_34_3, wd_1_5, wd_34_4, by decide +kernel⟩
def rm_X12_on : Room := { frames := 8, cells := 0, slots := 0, locals := 176 }
set_option maxHeartbeats 4000000 in
set_option maxRecDepth 100000 in
theorem c_X12_on {l : Launch} {G : va_G} {ct : Nat → ClassId} {aM : Nat → Nat} {N : Nat} {SM : zMS} {a1 : Int32} {a2 : Int32} {a3 : Int32} {r0 : Int32} {OM : zMS} (hf : f_X12_on N SM a1 a2 a3 = some (r0, OM)) : zC l yX12_on cX12_on 6 (some .int) rm_X12_on G ct [.ref (aM 200), .int a1, .int a2, .int a3] [wM aM ct SM] [wM aM ct OM] (some (.int r0)) 0 0 := by
  refine z_enter (own := RX12) (lv := [(0, .ref (aM 200)), (1, .int a1), (2, .int a2), (3, .int a3)]) (by decide) rfl (Nat.le_of_ble_eq_true rfl) rfl ?_
  intro p e s m args below meth c A E hr hnm
  unfold f_X12_on at hf
  refine z_aload_n (pc := 0) (k0 := 0) E dX12_on_0 rfl rfl ?_
  refine z_iload_n (pc := 1) (k0 := 1) E dX12_on_1 rfl rfl ?_
  obtain ⟨r1, h2, hf⟩ := kC_e hf
  refine z_callV0 (pc := 2) (is := [0]) (n := 1) (As := [.int a1]) (st := []) (st' := [.int r1]) (C2 := [wM aM ct SM]) E (c_X12_isParent (l := l) (G := G) (ct := ct) (aM := aM) h2) wv_X12_isParent wd_15_13 ⟨Nat.le_of_ble_eq_true rfl, Nat.le_of_ble_eq_true rfl, Nat.le_of_ble_eq_true rfl, Nat.le_of_ble_eq_true rfl⟩ rfl rfl rfl (by decide) rfl rfl (zrM (j := 0) rfl) rfl (Nat.le_of_ble_eq_true rfl) dX12_on_2 rfl rfl ?_
  refine z_if_eq (pc := 5) (tgt := 18) E dX12_on_5 (by decide) (fun c3 => ?_) (fun c3 => ?_)
  · have hf := kB_t hf c3
    refine z_iconst (pc := 18) (v := (-1)) E dX12_on_18 (by decide) ?_
    cases hf
    exact z_iret E hr dX12_on_19
  · have hf := kB_f hf c3
    refine z_aload_n (pc := 8) (k0 := 0) E dX12_on_8 rfl rfl ?_
    refine z_iload_n (pc := 9) (k0 := 3) E dX12_on_9 rfl rfl ?_
    refine z_iconst (pc := 10) (v := 0) E dX12_on_10 (by decide) ?_
    refine z_iconst (pc := 11) (v := 4) E dX12_on_11 (by decide) ?_
    obtain ⟨r4, h5, hf⟩ := kC_e hf
    refine z_callV0 (pc := 12) (is := [0]) (n := 3) (As := [.int a3, .int 0, .int 4]) (st := []) (st' := [.int r4]) (C2 := [wM aM ct SM]) E (c_X12_in (l := l) (G := G) (ct := ct) (aM := aM) h5) wv_X12_in wd_7_11 ⟨Nat.le_of_ble_eq_true rfl, Nat.le_of_ble_eq_true rfl, Nat.le_of_ble_eq_true rfl, Nat.le_of_ble_eq_true rfl⟩ rfl rfl rfl (by decide) rfl rfl (zrM (j := 0) rfl) rfl (Nat.le_of_ble_eq_true rfl) dX12_on_12 rfl rfl ?_
    refine z_if_ne (pc := 15) (tgt := 20) E dX12_on_15 (by decide) (fun c6 => ?_) (fun c6 => ?_)
    · have hf := kB_f hf c6
      refine z_aload_n (pc := 20) (k0 := 0) E dX12_on_20 rfl rfl ?_
      refine z_iload_n (pc := 21) (k0 := 2) E dX12_on_21 rfl rfl ?_
      refine z_iconst (pc := 22) (v := 0) E dX12_on_22 (by decide) ?_
      refine z_bipush (pc := 23) (v := 60) E dX12_on_23 (by decide) ?_
      obtain ⟨r7, h8, hf⟩ := kC_e hf
      refine z_callV0 (pc := 25) (is := [0]) (n := 3) (As := [.int a2, .int 0, .int 60]) (st := []) (st' := [.int r7]) (C2 := [wM aM ct SM]) E (c_X12_in (l := l) (G := G) (ct := ct) (aM := aM) h8) wv_X12_in wd_7_11 ⟨Nat.le_of_ble_eq_true rfl, Nat.le_of_ble_eq_true rfl, Nat.le_of_ble_eq_true rfl, Nat.le_of_ble_eq_true rfl⟩ rfl rfl rfl (by decide) rfl rfl (zrM (j := 0) rfl) rfl (Nat.le_of_ble_eq_true rfl) dX12_on_25 rfl rfl ?_
      refine z_if_ne (pc := 28) (tgt := 34) E dX12_on_28 (by decide) (fun c9 => ?_) (fun c9 => ?_)
      · have hf := kB_f hf c9
        refine z_aload_n (pc := 34) (k0 := 0) E dX12_on_34 rfl rfl ?_
        obtain ⟨SM_10, h11, hf⟩ := kC_e hf
        refine z_callV0 (pc := 35) (is := [0]) (n := 0) (As := []) (st := []) (st' := []) (C2 := [wM aM ct SM_10]) E (c_X12_save (l := l) (G := G) (ct := ct) (aM := aM) h11) wv_X12_save wd_34_5 ⟨Nat.le_of_ble_eq_true rfl, Nat.le_of_ble_eq_true rfl, Nat.le_of_ble_eq_true rfl, Nat.le_of_ble_eq_true rfl⟩ rfl rfl rfl (by decide) rfl rfl (zrM (j := 0) rfl) rfl (Nat.le_of_ble_eq_true rfl) dX12_on_35 rfl rfl ?_
        refine z_aload_n (pc := 38) (k0 := 0) E dX12_on_38 rfl rfl ?_
        refine z_iload_n (pc := 39) (k0 := 1) E dX12_on_39 rfl rfl ?_
        refine z_iload_n (pc := 40) (k0 := 2) E dX12_on_40 rfl rfl ?_
        obtain ⟨r12, SM_13, h14, hf⟩ := kD_e hf
        refine z_callV0 (pc := 41) (is := [0]) (n := 2) (As := [.int a1, .int a2]) (st := []) (st' := [.int r12]) (C2 := [wM aM ct SM_13]) E (c_X12_goAsks (l := l) (G := G) (ct := ct) (aM := aM) h14) wv_X12_goAsks wd_34_9 ⟨Nat.le_of_ble_eq_true rfl, Nat.le_of_ble_eq_true rfl, Nat.le_of_ble_eq_true rfl, Nat.le_of_ble_eq_true rfl⟩ rfl rfl rfl (by decide) rfl rfl (zrM (j := 0) rfl) rfl (Nat.le_of_ble_eq_true rfl) dX12_on_41 rfl rfl ?_
        refine z_istore (pc := 44) (lv' := [(4, .int r12), (0, .ref (aM 200)), (1, .int a1), (2, .int a2), (3, .int a3)]) E dX12_on_44 (by decide) rfl ?_
        refine z_iload_n (pc := 46) (k0 := 4) E dX12_on_46 rfl rfl ?_
        refine z_if_ne (pc := 47) (tgt := 57) E dX12_on_47 (by decide) (fun c15 => ?_) (fun c15 => ?_)
        · have hf := kB_f hf c15
          refine z_iload_n (pc := 57) (k0 := 4) E dX12_on_57 rfl rfl ?_
          refine z_iconst (pc := 58) (v := 1) E dX12_on_58 (by decide) ?_
          refine z_icmp_ne (pc := 59) (tgt := 69) E dX12_on_59 (by decide) (fun c16 => ?_) (fun c16 => ?_)
          · have hf := kB_f hf c16
            refine z_iload_n (pc := 69) (k0 := 4) E dX12_on_69 rfl rfl ?_
            refine z_iconst (pc := 70) (v := 2) E dX12_on_70 (by decide) ?_
            refine z_icmp_ne (pc := 71) (tgt := 81) E dX12_on_71 (by decide) (fun c17 => ?_) (fun c17 => ?_)
            · have hf := kB_f hf c17
              refine z_iload_n (pc := 81) (k0 := 4) E dX12_on_81 rfl rfl ?_
              refine z_iconst (pc := 82) (v := 3) E dX12_on_82 (by decide) ?_
              refine z_icmp_ne (pc := 83) (tgt := 91) E dX12_on_83 (by decide) (fun c18 => ?_) (fun c18 => ?_)
              · have hf := kB_f hf c18
                refine z_aload_n (pc := 91) (k0 := 1) E dX12_on_91 rfl rfl ?_
                obtain ⟨r19, h20, hf⟩ := kC_e hf
                refine z_callV0 (pc := 92) (is := [0]) (n := 0) (As := []) (st := []) (st' := [.int r19]) (C2 := [wM aM ct SM_13]) E (c_X12_how (l := l) (G := G) (ct := ct) (aM := aM) h20) wv_X12_how wd_29_15 ⟨Nat.le_of_ble_eq_true rfl, Nat.le_of_ble_eq_true rfl, Nat.le_of_ble_eq_true rfl, Nat.le_of_ble_eq_true rfl⟩ rfl rfl rfl (by decide) rfl rfl (zrM (j := 0) rfl) rfl (Nat.le_of_ble_eq_true rfl) dX12_on_92 rfl rfl ?_
                refine z_istore (pc := 95) (lv' := [(5, .int r19), (4, .int r12), (0, .ref (aM 200)), (1, .int a1), (2, .int a2), (3, .int a3)]) E dX12_on_95 (by decide) rfl ?_
                refine z_aload_n (pc := 97) (k0 := 2) E dX12_on_97 rfl rfl ?_
                obtain ⟨SM_21, h22, hf⟩ := kC_e hf
                refine z_callV0 (pc := 98) (is := [0]) (n := 0) (As := []) (st := []) (st' := []) (C2 := [wM aM ct SM_21]) E (c_X12_putBack (l := l) (G := G) (ct := ct) (aM := aM) h22) wv_X12_putBack wd_34_13 ⟨Nat.le_of_ble_eq_true rfl, Nat.le_of_ble_eq_true rfl, Nat.le_of_ble_eq_true rfl, Nat.le_of_ble_eq_true rfl⟩ rfl rfl rfl (by decide) rfl rfl (zrM (j := 0) rfl) rfl (Nat.le_of_ble_eq_true rfl) dX12_on_98 rfl rfl ?_
                refine z_iload (pc := 101) (k0 := 0) E dX12_on_101 rfl ?_
                cases hf
                exact z_iret E hr dX12_on_103
              · have hf := kB_t hf c18
                refine z_iload (pc := 86) (k0 := 0) E dX12_on_86 rfl ?_
                refine z_goto (pc := 88) (tgt := 95) E dX12_on_88 (by decide) ?_
                refine z_istore (pc := 95) (lv' := [(5, .int r12), (4, .int r12), (0, .ref (aM 200)), (1, .int a1), (2, .int a2), (3, .int a3)]) E dX12_on_95 (by decide) rfl ?_
                refine z_aload_n (pc := 97) (k0 := 2) E dX12_on_97 rfl rfl ?_
                obtain ⟨SM_23, h24, hf⟩ := kC_e hf
                refine z_callV0 (pc := 98) (is := [0]) (n := 0) (As := []) (st := []) (st' := []) (C2 := [wM aM ct SM_23]) E (c_X12_putBack (l := l) (G := G) (ct := ct) (aM := aM) h24) wv_X12_putBack wd_34_13 ⟨Nat.le_of_ble_eq_true rfl, Nat.le_of_ble_eq_true rfl, Nat.le_of_ble_eq_true rfl, Nat.le_of_ble_eq_true rfl⟩ rfl rfl rfl (by decide) rfl rfl (zrM (j := 0) rfl) rfl (Nat.le_of_ble_eq_true rfl) dX12_on_98 rfl rfl ?_
                refine z_iload (pc := 101) (k0 := 0) E dX12_on_101 rfl ?_
                cases hf
                exact z_iret E hr dX12_on_103
            · have hf := kB_t hf c17
              refine z_aload_n (pc := 74) (k0 := 1) E dX12_on_74 rfl rfl ?_
              refine gM_6 (pc := 75) (i := 0) E rfl wd_4_1 dX12_on_75 ?_
              refine z_goto (pc := 78) (tgt := 95) E dX12_on_78 (by decide) ?_
              refine z_istore (pc := 95) (lv' := [(5, .int (SM_13.1 6)), (4, .int r12), (0, .ref (aM 200)), (1, .int a1), (2, .int a2), (3, .int a3)]) E dX12_on_95 (by decide) rfl ?_
              refine z_aload_n (pc := 97) (k0 := 2) E dX12_on_97 rfl rfl ?_
              obtain ⟨SM_25, h26, hf⟩ := kC_e hf
              refine z_callV0 (pc := 98) (is := [0]) (n := 0) (As := []) (st := []) (st' := []) (C2 := [wM aM ct SM_25]) E (c_X12_putBack (l := l) (G := G) (ct := ct) (aM := aM) h26) wv_X12_putBack wd_34_13 ⟨Nat.le_of_ble_eq_true rfl, Nat.le_of_ble_eq_true rfl, Nat.le_of_ble_eq_true rfl, Nat.le_of_ble_eq_true rfl⟩ rfl rfl rfl (by decide) rfl rfl (zrM (j := 0) rfl) rfl (Nat.le_of_ble_eq_true rfl) dX12_on_98 rfl rfl ?_
              refine z_iload (pc := 101) (k0 := 0) E dX12_on_101 rfl ?_
              cases hf
              exact z_iret E hr dX12_on_103
          · have hf := kB_t hf c16
            refine z_aload_n (pc := 62) (k0 := 1) E dX12_on_62 rfl rfl ?_
            refine gM_4 (pc := 63) (i := 0) E rfl wd_3_23 dX12_on_63 ?_
            refine z_goto (pc := 66) (tgt := 95) E dX12_on_66 (by decide) ?_
            refine z_istore (pc := 95) (lv' := [(5, .int (SM_13.1 4)), (4, .int r12), (0, .ref (aM 200)), (1, .int a1), (2, .int a2), (3, .int a3)]) E dX12_on_95 (by decide) rfl ?_
            refine z_aload_n (pc := 97) (k0 := 2) E dX12_on_97 rfl rfl ?_
            obtain ⟨SM_27, h28, hf⟩ := kC_e hf
            refine z_callV0 (pc := 98) (is := [0]) (n := 0) (As := []) (st := []) (st' := []) (C2 := [wM aM ct SM_27]) E (c_X12_putBack (l := l) (G := G) (ct := ct) (aM := aM) h28) wv_X12_putBack wd_34_13 ⟨Nat.le_of_ble_eq_true rfl, Nat.le_of_ble_eq_true rfl, Nat.le_of_ble_eq_true rfl, Nat.le_of_ble_eq_true rfl⟩ rfl rfl rfl (by decide) rfl rfl (zrM (j := 0) rfl) rfl (Nat.le_of_ble_eq_true rfl) dX12_on_98 rfl rfl ?_
            refine z_iload (pc := 101) (k0 := 0) E dX12_on_101 rfl ?_
            cases hf
            exact z_iret E hr dX12_on_103
        · have hf := kB_t hf c15
          refine z_aload_n (pc := 50) (k0 := 1) E dX12_on_50 rfl rfl ?_
          refine gM_3 (pc := 51) (i := 0) E rfl wd_3_22 dX12_on_51 ?_
          refine z_goto (pc := 54) (tgt := 95) E dX12_on_54 (by decide) ?_
          refine z_istore (pc := 95) (lv' := [(5, .int (SM_13.1 3)), (4, .int r12), (0, .ref (aM 200)), (1, .int a1), (2, .int a2), (3, .int a3)]) E dX12_on_95 (by decide) rfl ?_
          refine z_aload_n (pc := 97) (k0 := 2) E dX12_on_97 rfl rfl ?_
          obtain ⟨SM_29, h30, hf⟩ := kC_e hf
          refine z_callV0 (pc := 98) (is := [0]) (n := 0) (As := []) (st := []) (st' := []) (C2 := [wM aM ct SM_29]) E (c_X12_putBack (l := l) (G := G) (ct := ct) (aM := aM) h30) wv_X12_putBack wd_34_13 ⟨Nat.le_of_ble_eq_true rfl, Nat.le_of_ble_eq_true rfl, Nat.le_of_ble_eq_true rfl, Nat.le_of_ble_eq_true rfl⟩ rfl rfl rfl (by decide) rfl rfl (zrM (j := 0) rfl) rfl (Nat.le_of_ble_eq_true rfl) dX12_on_98 rfl rfl ?_
          refine z_iload (pc := 101) (k0 := 0) E dX12_on_101 rfl ?_
          cases hf
          exact z_iret E hr dX12_on_103
      · have hf := kB_t hf c9
        refine z_bipush (pc := 31) (v := (-2)) E dX12_on_31 (by decide) ?_
        cases hf
        exact z_iret E hr dX12_on_33
    · have hf := kB_t hf c6
      refine z_iconst (pc := 18) (v := (-1)) E dX12_on_18 (by decide) ?_
      cases hf
      exact z_iret E hr dX12_on_19
noncomputable def f_X12_sleepsBy (N : Nat) (SM : zMS) (a1 : Int32) : Option (Int32 × zMS) := kC (f_X12_save N SM) (fun SM_1 => kD (f_X12_goAsks N SM_1 a1 60) (fun r3 SM_4 => kC (f_X12_how N SM_4) (fun r6 => kB (r6 = 1) (kC (f_X12_putBack N SM_4) (fun SM_11 => some ((SM_4.1 3), SM_11))) (kC (f_X12_putBack N SM_4) (fun SM_9 => some ((-5), SM_9))))))
theorem wv_X12_sleepsBy : zWV RX12 yX12_sleepsBy cX12_sleepsBy 4 (some .int) 1 := ⟨wd_35_11, wd_35_12, wd_1_5, wd_35_13, by decide +kernel⟩
def rm_X12_sleepsBy : Room := { frames := 8, cells := 0, slots := 0, locals := 176 }
set_option maxHeartbeats 4000000 in
set_option maxRecDepth 100000 in
theorem c_X12_sleepsBy {l : Launch} {G : va_G} {ct : Nat → ClassId} {aM : Nat → Nat} {N : Nat} {SM : zMS} {a1 : Int32} {r0 : Int32} {OM : zMS} (hf : f_X12_sleepsBy N SM a1 = some (r0, OM)) : zC l yX12_sleepsBy cX12_sleepsBy 4 (some .int) rm_X12_sleepsBy G ct [.ref (aM 200), .int a1] [wM aM ct SM] [wM aM ct OM] (some (.int r0)) 0 0 := by
  refine z_enter (own := RX12) (lv := [(0, .ref (aM 200)), (1, .int a1)]) (by decide) rfl (Nat.le_of_ble_eq_true rfl) rfl ?_
  intro p e s m args below meth c A E hr hnm
  unfold f_X12_sleepsBy at hf
  refine z_aload_n (pc := 0) (k0 := 0) E dX12_sleepsBy_0 rfl rfl ?_
  obtain ⟨SM_1, h2, hf⟩ := kC_e hf
  refine z_callV0 (pc := 1) (is := [0]) (n := 0) (As := []) (st := []) (st' := []) (C2 := [wM aM ct SM_1]) E (c_X12_save (l := l) (G := G) (ct := ct) (aM := aM) h2) wv_X12_save wd_34_5 ⟨Nat.le_of_ble_eq_true rfl, Nat.le_of_ble_eq_true rfl, Nat.le_of_ble_eq_true rfl, Nat.le_of_ble_eq_true rfl⟩ rfl rfl rfl (by decide) rfl rfl (zrM (j := 0) rfl) rfl (Nat.le_of_ble_eq_true rfl) dX12_sleepsBy_1 rfl rfl ?_
  refine z_aload_n (pc := 4) (k0 := 0) E dX12_sleepsBy_4 rfl rfl ?_
  refine z_iload_n (pc := 5) (k0 := 1) E dX12_sleepsBy_5 rfl rfl ?_
  refine z_bipush (pc := 6) (v := 60) E dX12_sleepsBy_6 (by decide) ?_
  obtain ⟨r3, SM_4, h5, hf⟩ := kD_e hf
  refine z_callV0 (pc := 8) (is := [0]) (n := 2) (As := [.int a1, .int 60]) (st := []) (st' := [.int r3]) (C2 := [wM aM ct SM_4]) E (c_X12_goAsks (l := l) (G := G) (ct := ct) (aM := aM) h5) wv_X12_goAsks wd_34_9 ⟨Nat.le_of_ble_eq_true rfl, Nat.le_of_ble_eq_true rfl, Nat.le_of_ble_eq_true rfl, Nat.le_of_ble_eq_true rfl⟩ rfl rfl rfl (by decide) rfl rfl (zrM (j := 0) rfl) rfl (Nat.le_of_ble_eq_true rfl) dX12_sleepsBy_8 rfl rfl ?_
  refine z_istore_n (pc := 11) (lv' := [(2, .int r3), (0, .ref (aM 200)), (1, .int a1)]) E dX12_sleepsBy_11 rfl (by decide) rfl ?_
  refine z_aload_n (pc := 12) (k0 := 1) E dX12_sleepsBy_12 rfl rfl ?_
  obtain ⟨r6, h7, hf⟩ := kC_e hf
  refine z_callV0 (pc := 13) (is := [0]) (n := 0) (As := []) (st := []) (st' := [.int r6]) (C2 := [wM aM ct SM_4]) E (c_X12_how (l := l) (G := G) (ct := ct) (aM := aM) h7) wv_X12_how wd_29_15 ⟨Nat.le_of_ble_eq_true rfl, Nat.le_of_ble_eq_true rfl, Nat.le_of_ble_eq_true rfl, Nat.le_of_ble_eq_true rfl⟩ rfl rfl rfl (by decide) rfl rfl (zrM (j := 0) rfl) rfl (Nat.le_of_ble_eq_true rfl) dX12_sleepsBy_13 rfl rfl ?_
  refine z_iconst (pc := 16) (v := 1) E dX12_sleepsBy_16 (by decide) ?_
  refine z_icmp_ne (pc := 17) (tgt := 27) E dX12_sleepsBy_17 (by decide) (fun c8 => ?_) (fun c8 => ?_)
  · have hf := kB_f hf c8
    refine z_bipush (pc := 27) (v := (-5)) E dX12_sleepsBy_27 (by decide) ?_
    refine z_istore_n (pc := 29) (lv' := [(3, .int (-5)), (2, .int r3), (0, .ref (aM 200)), (1, .int a1)]) E dX12_sleepsBy_29 rfl (by decide) rfl ?_
    refine z_aload_n (pc := 30) (k0 := 2) E dX12_sleepsBy_30 rfl rfl ?_
    obtain ⟨SM_9, h10, hf⟩ := kC_e hf
    refine z_callV0 (pc := 31) (is := [0]) (n := 0) (As := []) (st := []) (st' := []) (C2 := [wM aM ct SM_9]) E (c_X12_putBack (l := l) (G := G) (ct := ct) (aM := aM) h10) wv_X12_putBack wd_34_13 ⟨Nat.le_of_ble_eq_true rfl, Nat.le_of_ble_eq_true rfl, Nat.le_of_ble_eq_true rfl, Nat.le_of_ble_eq_true rfl⟩ rfl rfl rfl (by decide) rfl rfl (zrM (j := 0) rfl) rfl (Nat.le_of_ble_eq_true rfl) dX12_sleepsBy_31 rfl rfl ?_
    refine z_iload_n (pc := 34) (k0 := 0) E dX12_sleepsBy_34 rfl rfl ?_
    cases hf
    exact z_iret E hr dX12_sleepsBy_35
  · have hf := kB_t hf c8
    refine z_aload_n (pc := 20) (k0 := 1) E dX12_sleepsBy_20 rfl rfl ?_
    refine gM_3 (pc := 21) (i := 0) E rfl wd_3_22 dX12_sleepsBy_21 ?_
    refine z_goto (pc := 24) (tgt := 29) E dX12_sleepsBy_24 (by decide) ?_
    refine z_istore_n (pc := 29) (lv' := [(3, .int (SM_4.1 3)), (2, .int r3), (0, .ref (aM 200)), (1, .int a1)]) E dX12_sleepsBy_29 rfl (by decide) rfl ?_
    refine z_aload_n (pc := 30) (k0 := 2) E dX12_sleepsBy_30 rfl rfl ?_
    obtain ⟨SM_11, h12, hf⟩ := kC_e hf
    refine z_callV0 (pc := 31) (is := [0]) (n := 0) (As := []) (st := []) (st' := []) (C2 := [wM aM ct SM_11]) E (c_X12_putBack (l := l) (G := G) (ct := ct) (aM := aM) h12) wv_X12_putBack wd_34_13 ⟨Nat.le_of_ble_eq_true rfl, Nat.le_of_ble_eq_true rfl, Nat.le_of_ble_eq_true rfl, Nat.le_of_ble_eq_true rfl⟩ rfl rfl rfl (by decide) rfl rfl (zrM (j := 0) rfl) rfl (Nat.le_of_ble_eq_true rfl) dX12_sleepsBy_31 rfl rfl ?_
    refine z_iload_n (pc := 34) (k0 := 0) E dX12_sleepsBy_34 rfl rfl ?_
    cases hf
    exact z_iret E hr dX12_sleepsBy_35
noncomputable def f_X12_with_l21 (N : Nat) : Nat → zMS → Int32 → Int32 → Int32 → Int32 → Option (Int32 × zMS) := fun n => Nat.rec (motive := fun _ => zMS → Int32 → Int32 → Int32 → Int32 → Option (Int32 × zMS)) (fun _ _ _ _ _ => none) (fun _ ih SM x1 x2 x3 x4 => kB ((SM.1 1) ≤ x4) (kB (x1 = 0) (some (x2, SM)) (some (x3, SM))) (kD (f_X12_sleepsBy N SM x4) (fun r6 SM_7 => kB (r6 < 0) (kL (x4 + 1) (fun v10 => ih SM_7 x1 x2 x3 v10)) (kB (x3 < 0) (kL (x4 + 1) (fun v12 => ih SM_7 x1 x4 r6 v12)) (kB (r6 < x3) (kL (x4 + 1) (fun v14 => ih SM_7 x1 x4 r6 v14)) (kL (x4 + 1) (fun v15 => ih SM_7 x1 x2 x3 v15))))))) n
theorem f_X12_with_l21_z (N : Nat) (SM : zMS) (x1 : Int32) (x2 : Int32) (x3 : Int32) (x4 : Int32) : f_X12_with_l21 N 0 SM x1 x2 x3 x4 = none := rfl
theorem f_X12_with_l21_s (N : Nat) (n : Nat) (SM : zMS) (x1 : Int32) (x2 : Int32) (x3 : Int32) (x4 : Int32) : f_X12_with_l21 N (n + 1) SM x1 x2 x3 x4 = kB ((SM.1 1) ≤ x4) (kB (x1 = 0) (some (x2, SM)) (some (x3, SM))) (kD (f_X12_sleepsBy N SM x4) (fun r6 SM_7 => kB (r6 < 0) (kL (x4 + 1) (fun v10 => (f_X12_with_l21 N n) SM_7 x1 x2 x3 v10)) (kB (x3 < 0) (kL (x4 + 1) (fun v12 => (f_X12_with_l21 N n) SM_7 x1 x4 r6 v12)) (kB (r6 < x3) (kL (x4 + 1) (fun v14 => (f_X12_with_l21 N n) SM_7 x1 x4 r6 v14)) (kL (x4 + 1) (fun v15 => (f_X12_with_l21 N n) SM_7 x1 x2 x3 v15)))))) := rfl
noncomputable def f_X12_with (N : Nat) (SM : zMS) (a1 : Int32) : Option (Int32 × zMS) := kC (f_X12_in SM a1 0 1) (fun r1 => kB (r1 = 0) (some ((-1), SM)) (f_X12_with_l21 N N SM a1 (-5) (-5) 0))
theorem wv_X12_with : zWV RX12 yX12_with cX12_with 6 (some .int) 1 := ⟨wd_35_7, wd_35_8, wd_1_5, wd_35_9, by decide +kernel⟩
def rm_X12_with : Room := { frames := 9, cells := 0, slots := 0, locals := 199 }
set_option maxHeartbeats 4000000 in
set_option maxRecDepth 100000 in
theorem c_X12_with {l : Launch} {G : va_G} {ct : Nat → ClassId} {aM : Nat → Nat} {N : Nat} {SM : zMS} {a1 : Int32} {r0 : Int32} {OM : zMS} (hf : f_X12_with N SM a1 = some (r0, OM)) : zC l yX12_with cX12_with 6 (some .int) rm_X12_with G ct [.ref (aM 200), .int a1] [wM aM ct SM] [wM aM ct OM] (some (.int r0)) 0 0 := by
  refine z_enter (own := RX12) (lv := [(0, .ref (aM 200)), (1, .int a1)]) (by decide) rfl (Nat.le_of_ble_eq_true rfl) rfl ?_
  intro p e s m args below meth c A E hr hnm
  have L21 : ∀ (n21 : Nat) (SM : zMS) (x1 : Int32) (x2 : Int32) (x3 : Int32) (x4 : Int32), f_X12_with_l21 N n21 SM x1 x2 x3 x4 = some (r0, OM) → zJ p l e rm_X12_with s m args below meth c (zQ G ct (some (.int r0)) [wM aM ct OM] A below args s 0 0) A G 6 0 0 [wM aM ct SM] [(0, .ref (aM 200)), (1, .int x1), (2, .int x2), (3, .int x3), (4, .int x4)] 21 [] := by
    intro n21
    induction n21 with
    | zero =>
      intro SM x1 x2 x3 x4 hf
      rw [f_X12_with_l21_z] at hf
      cases hf
    | succ n21 ih21 =>
      intro SM x1 x2 x3 x4 hf
      rw [f_X12_with_l21_s] at hf
      refine z_iload (pc := 21) (k0 := 4) E dX12_with_21 rfl ?_
      refine z_aload_n (pc := 23) (k0 := 0) E dX12_with_23 rfl rfl ?_
      refine gM_1 (pc := 24) (i := 0) E rfl wd_3_20 dX12_with_24 ?_
      refine z_icmp_ge (pc := 27) (tgt := 68) E dX12_with_27 (by decide) (fun c4 => ?_) (fun c4 => ?_)
      · have hf := kB_t hf c4
        refine z_iload_n (pc := 68) (k0 := 1) E dX12_with_68 rfl rfl ?_
        refine z_if_ne (pc := 69) (tgt := 76) E dX12_with_69 (by decide) (fun c5 => ?_) (fun c5 => ?_)
        · have hf := kB_f hf c5
          refine z_iload_n (pc := 76) (k0 := 3) E dX12_with_76 rfl rfl ?_
          cases hf
          exact z_iret E hr dX12_with_77
        · have hf := kB_t hf c5
          refine z_iload_n (pc := 72) (k0 := 2) E dX12_with_72 rfl rfl ?_
          refine z_goto (pc := 73) (tgt := 77) E dX12_with_73 (by decide) ?_
          cases hf
          exact z_iret E hr dX12_with_77
      · have hf := kB_f hf c4
        refine z_aload_n (pc := 30) (k0 := 0) E dX12_with_30 rfl rfl ?_
        refine z_iload (pc := 31) (k0 := 4) E dX12_with_31 rfl ?_
        obtain ⟨r6, SM_7, h8, hf⟩ := kD_e hf
        refine z_callV0 (pc := 33) (is := [0]) (n := 1) (As := [.int x4]) (st := []) (st' := [.int r6]) (C2 := [wM aM ct SM_7]) E (c_X12_sleepsBy (l := l) (G := G) (ct := ct) (aM := aM) h8) wv_X12_sleepsBy wd_35_10 ⟨Nat.le_of_ble_eq_true rfl, Nat.le_of_ble_eq_true rfl, Nat.le_of_ble_eq_true rfl, Nat.le_of_ble_eq_true rfl⟩ rfl rfl rfl (by decide) rfl rfl (zrM (j := 0) rfl) rfl (Nat.le_of_ble_eq_true rfl) dX12_with_33 rfl rfl ?_
        refine z_istore (pc := 36) (lv' := [(5, .int r6), (0, .ref (aM 200)), (1, .int x1), (2, .int x2), (3, .int x3), (4, .int x4)]) E dX12_with_36 (by decide) rfl ?_
        refine z_iload (pc := 38) (k0 := 0) E dX12_with_38 rfl ?_
        refine z_if_lt (pc := 40) (tgt := 62) E dX12_with_40 (by decide) (fun c9 => ?_) (fun c9 => ?_)
        · have hf := kB_t hf c9
          obtain ⟨v10, e_v10, hf⟩ := kL_e hf
          refine z_iinc (pc := 62) (k0 := 5) (v := v10) (lv' := [(4, .int v10), (5, .int r6), (0, .ref (aM 200)), (1, .int x1), (2, .int x2), (3, .int x3)]) E dX12_with_62 rfl e_v10 (by decide) rfl ?_
          refine z_goto (pc := 65) (tgt := 21) E dX12_with_65 (by decide) ?_
          refine z_sub [2, 3, 4, 5, 0] (lv' := [(0, .ref (aM 200)), (1, .int x1), (2, .int x2), (3, .int x3), (4, .int v10)]) rfl ?_
          exact ih21 SM_7 x1 x2 x3 v10 hf
        · have hf := kB_f hf c9
          refine z_iload_n (pc := 43) (k0 := 4) E dX12_with_43 rfl rfl ?_
          refine z_if_lt (pc := 44) (tgt := 56) E dX12_with_44 (by decide) (fun c11 => ?_) (fun c11 => ?_)
          · have hf := kB_t hf c11
            refine z_iload (pc := 56) (k0 := 5) E dX12_with_56 rfl ?_
            refine z_istore_n (pc := 58) (lv' := [(2, .int x4), (5, .int r6), (0, .ref (aM 200)), (1, .int x1), (3, .int x3), (4, .int x4)]) E dX12_with_58 rfl (by decide) rfl ?_
            refine z_iload (pc := 59) (k0 := 1) E dX12_with_59 rfl ?_
            refine z_istore_n (pc := 61) (lv' := [(3, .int r6), (2, .int x4), (5, .int r6), (0, .ref (aM 200)), (1, .int x1), (4, .int x4)]) E dX12_with_61 rfl (by decide) rfl ?_
            obtain ⟨v12, e_v12, hf⟩ := kL_e hf
            refine z_iinc (pc := 62) (k0 := 5) (v := v12) (lv' := [(4, .int v12), (3, .int r6), (2, .int x4), (5, .int r6), (0, .ref (aM 200)), (1, .int x1)]) E dX12_with_62 rfl e_v12 (by decide) rfl ?_
            refine z_goto (pc := 65) (tgt := 21) E dX12_with_65 (by decide) ?_
            refine z_sub [4, 5, 2, 1, 0] (lv' := [(0, .ref (aM 200)), (1, .int x1), (2, .int x4), (3, .int r6), (4, .int v12)]) rfl ?_
            exact ih21 SM_7 x1 x4 r6 v12 hf
          · have hf := kB_f hf c11
            refine z_iload (pc := 47) (k0 := 0) E dX12_with_47 rfl ?_
            refine z_iload_n (pc := 49) (k0 := 4) E dX12_with_49 rfl rfl ?_
            refine z_icmp_lt (pc := 50) (tgt := 56) E dX12_with_50 (by decide) (fun c13 => ?_) (fun c13 => ?_)
            · have hf := kB_t hf c13
              refine z_iload (pc := 56) (k0 := 5) E dX12_with_56 rfl ?_
              refine z_istore_n (pc := 58) (lv' := [(2, .int x4), (5, .int r6), (0, .ref (aM 200)), (1, .int x1), (3, .int x3), (4, .int x4)]) E dX12_with_58 rfl (by decide) rfl ?_
              refine z_iload (pc := 59) (k0 := 1) E dX12_with_59 rfl ?_
              refine z_istore_n (pc := 61) (lv' := [(3, .int r6), (2, .int x4), (5, .int r6), (0, .ref (aM 200)), (1, .int x1), (4, .int x4)]) E dX12_with_61 rfl (by decide) rfl ?_
              obtain ⟨v14, e_v14, hf⟩ := kL_e hf
              refine z_iinc (pc := 62) (k0 := 5) (v := v14) (lv' := [(4, .int v14), (3, .int r6), (2, .int x4), (5, .int r6), (0, .ref (aM 200)), (1, .int x1)]) E dX12_with_62 rfl e_v14 (by decide) rfl ?_
              refine z_goto (pc := 65) (tgt := 21) E dX12_with_65 (by decide) ?_
              refine z_sub [4, 5, 2, 1, 0] (lv' := [(0, .ref (aM 200)), (1, .int x1), (2, .int x4), (3, .int r6), (4, .int v14)]) rfl ?_
              exact ih21 SM_7 x1 x4 r6 v14 hf
            · have hf := kB_f hf c13
              refine z_goto (pc := 53) (tgt := 62) E dX12_with_53 (by decide) ?_
              obtain ⟨v15, e_v15, hf⟩ := kL_e hf
              refine z_iinc (pc := 62) (k0 := 5) (v := v15) (lv' := [(4, .int v15), (5, .int r6), (0, .ref (aM 200)), (1, .int x1), (2, .int x2), (3, .int x3)]) E dX12_with_62 rfl e_v15 (by decide) rfl ?_
              refine z_goto (pc := 65) (tgt := 21) E dX12_with_65 (by decide) ?_
              refine z_sub [2, 3, 4, 5, 0] (lv' := [(0, .ref (aM 200)), (1, .int x1), (2, .int x2), (3, .int x3), (4, .int v15)]) rfl ?_
              exact ih21 SM_7 x1 x2 x3 v15 hf
  unfold f_X12_with at hf
  refine z_aload_n (pc := 0) (k0 := 0) E dX12_with_0 rfl rfl ?_
  refine z_iload_n (pc := 1) (k0 := 1) E dX12_with_1 rfl rfl ?_
  refine z_iconst (pc := 2) (v := 0) E dX12_with_2 (by decide) ?_
  refine z_iconst (pc := 3) (v := 1) E dX12_with_3 (by decide) ?_
  obtain ⟨r1, h2, hf⟩ := kC_e hf
  refine z_callV0 (pc := 4) (is := [0]) (n := 3) (As := [.int a1, .int 0, .int 1]) (st := []) (st' := [.int r1]) (C2 := [wM aM ct SM]) E (c_X12_in (l := l) (G := G) (ct := ct) (aM := aM) h2) wv_X12_in wd_7_11 ⟨Nat.le_of_ble_eq_true rfl, Nat.le_of_ble_eq_true rfl, Nat.le_of_ble_eq_true rfl, Nat.le_of_ble_eq_true rfl⟩ rfl rfl rfl (by decide) rfl rfl (zrM (j := 0) rfl) rfl (Nat.le_of_ble_eq_true rfl) dX12_with_4 rfl rfl ?_
  refine z_if_ne (pc := 7) (tgt := 12) E dX12_with_7 (by decide) (fun c3 => ?_) (fun c3 => ?_)
  · have hf := kB_f hf c3
    refine z_bipush (pc := 12) (v := (-5)) E dX12_with_12 (by decide) ?_
    refine z_istore_n (pc := 14) (lv' := [(2, .int (-5)), (0, .ref (aM 200)), (1, .int a1)]) E dX12_with_14 rfl (by decide) rfl ?_
    refine z_bipush (pc := 15) (v := (-5)) E dX12_with_15 (by decide) ?_
    refine z_istore_n (pc := 17) (lv' := [(3, .int (-5)), (2, .int (-5)), (0, .ref (aM 200)), (1, .int a1)]) E dX12_with_17 rfl (by decide) rfl ?_
    refine z_iconst (pc := 18) (v := 0) E dX12_with_18 (by decide) ?_
    refine z_istore (pc := 19) (lv' := [(4, .int 0), (3, .int (-5)), (2, .int (-5)), (0, .ref (aM 200)), (1, .int a1)]) E dX12_with_19 (by decide) rfl ?_
    refine z_sub [3, 4, 2, 1, 0] (lv' := [(0, .ref (aM 200)), (1, .int a1), (2, .int (-5)), (3, .int (-5)), (4, .int 0)]) rfl ?_
    exact L21 N SM a1 (-5) (-5) 0 hf
  · have hf := kB_t hf c3
    refine z_iconst (pc := 10) (v := (-1)) E dX12_with_10 (by decide) ?_
    cases hf
    exact z_iret E hr dX12_with_11
noncomputable def f_X12_both_b60 (N : Nat) (SM : zMS) : Option (Int32 × zMS) := kC (f_X12_how N SM) (fun r23 => kB (r23 = 1) (kC (f_X12_putBack N SM) (fun SM_28 => some ((SM.1 3), SM_28))) (kC (f_X12_putBack N SM) (fun SM_26 => some ((-5), SM_26))))
noncomputable def f_X12_both_l24 (N : Nat) : Nat → zMS → Int32 → Int32 → Int32 → Option (Int32 × zMS) := fun n => Nat.rec (motive := fun _ => zMS → Int32 → Int32 → Int32 → Option (Int32 × zMS)) (fun _ _ _ _ => none) (fun _ ih SM x1 x2 x3 => kB (60 ≤ x3) (f_X12_both_b60 N SM) (kC (f_X12_isOver N SM) (fun r10 => kB (r10 = 0) (kL (x3 - x3 / 2 * 2) (fun v13 => kB (v13 = 0) (kD (f_X12_goAsk N SM x1) (fun r19 SM_20 => kL (x3 + 1) (fun v22 => ih SM_20 x1 x2 v22))) (kD (f_X12_goAsk N SM x2) (fun r15 SM_16 => kL (x3 + 1) (fun v18 => ih SM_16 x1 x2 v18))))) (f_X12_both_b60 N SM)))) n
theorem f_X12_both_l24_z (N : Nat) (SM : zMS) (x1 : Int32) (x2 : Int32) (x3 : Int32) : f_X12_both_l24 N 0 SM x1 x2 x3 = none := rfl
theorem f_X12_both_l24_s (N : Nat) (n : Nat) (SM : zMS) (x1 : Int32) (x2 : Int32) (x3 : Int32) : f_X12_both_l24 N (n + 1) SM x1 x2 x3 = kB (60 ≤ x3) (f_X12_both_b60 N SM) (kC (f_X12_isOver N SM) (fun r10 => kB (r10 = 0) (kL (x3 - x3 / 2 * 2) (fun v13 => kB (v13 = 0) (kD (f_X12_goAsk N SM x1) (fun r19 SM_20 => kL (x3 + 1) (fun v22 => (f_X12_both_l24 N n) SM_20 x1 x2 v22))) (kD (f_X12_goAsk N SM x2) (fun r15 SM_16 => kL (x3 + 1) (fun v18 => (f_X12_both_l24 N n) SM_16 x1 x2 v18))))) (f_X12_both_b60 N SM))) := rfl
noncomputable def f_X12_both (N : Nat) (SM : zMS) (a1 : Int32) (a2 : Int32) : Option (Int32 × zMS) := kC (f_X12_isParent SM a1) (fun r1 => kB (r1 = 0) (some ((-1), SM)) (kC (f_X12_isParent SM a2) (fun r4 => kB (r4 = 0) (some ((-1), SM)) (kC (f_X12_save N SM) (fun SM_7 => f_X12_both_l24 N N SM_7 a1 a2 0)))))
theorem wv_X12_both : zWV RX12 yX12_both cX12_both 5 (some .int) 2 := ⟨wd_35_19, wd_35_20, wd_1_5, wd_35_21, by decide +kernel⟩
def rm_X12_both : Room := { frames := 7, cells := 0, slots := 0, locals := 152 }
set_option maxHeartbeats 4000000 in
set_option maxRecDepth 100000 in
theorem c_X12_both {l : Launch} {G : va_G} {ct : Nat → ClassId} {aM : Nat → Nat} {N : Nat} {SM : zMS} {a1 : Int32} {a2 : Int32} {r0 : Int32} {OM : zMS} (hf : f_X12_both N SM a1 a2 = some (r0, OM)) : zC l yX12_both cX12_both 5 (some .int) rm_X12_both G ct [.ref (aM 200), .int a1, .int a2] [wM aM ct SM] [wM aM ct OM] (some (.int r0)) 0 0 := by
  refine z_enter (own := RX12) (lv := [(0, .ref (aM 200)), (1, .int a1), (2, .int a2)]) (by decide) rfl (Nat.le_of_ble_eq_true rfl) rfl ?_
  intro p e s m args below meth c A E hr hnm
  have B60 : ∀ (SM : zMS), f_X12_both_b60 N SM = some (r0, OM) → zJ p l e rm_X12_both s m args below meth c (zQ G ct (some (.int r0)) [wM aM ct OM] A below args s 0 0) A G 5 0 0 [wM aM ct SM] [(0, .ref (aM 200))] 60 [] := by
    intro SM hf
    unfold f_X12_both_b60 at hf
    refine z_aload_n (pc := 60) (k0 := 0) E dX12_both_60 rfl rfl ?_
    obtain ⟨r23, h24, hf⟩ := kC_e hf
    refine z_callV0 (pc := 61) (is := [0]) (n := 0) (As := []) (st := []) (st' := [.int r23]) (C2 := [wM aM ct SM]) E (c_X12_how (l := l) (G := G) (ct := ct) (aM := aM) h24) wv_X12_how wd_29_15 ⟨Nat.le_of_ble_eq_true rfl, Nat.le_of_ble_eq_true rfl, Nat.le_of_ble_eq_true rfl, Nat.le_of_ble_eq_true rfl⟩ rfl rfl rfl (by decide) rfl rfl (zrM (j := 0) rfl) rfl (Nat.le_of_ble_eq_true rfl) dX12_both_61 rfl rfl ?_
    refine z_iconst (pc := 64) (v := 1) E dX12_both_64 (by decide) ?_
    refine z_icmp_ne (pc := 65) (tgt := 75) E dX12_both_65 (by decide) (fun c25 => ?_) (fun c25 => ?_)
    · have hf := kB_f hf c25
      refine z_bipush (pc := 75) (v := (-5)) E dX12_both_75 (by decide) ?_
      refine z_istore_n (pc := 77) (lv' := [(3, .int (-5)), (0, .ref (aM 200))]) E dX12_both_77 rfl (by decide) rfl ?_
      refine z_aload_n (pc := 78) (k0 := 1) E dX12_both_78 rfl rfl ?_
      obtain ⟨SM_26, h27, hf⟩ := kC_e hf
      refine z_callV0 (pc := 79) (is := [0]) (n := 0) (As := []) (st := []) (st' := []) (C2 := [wM aM ct SM_26]) E (c_X12_putBack (l := l) (G := G) (ct := ct) (aM := aM) h27) wv_X12_putBack wd_34_13 ⟨Nat.le_of_ble_eq_true rfl, Nat.le_of_ble_eq_true rfl, Nat.le_of_ble_eq_true rfl, Nat.le_of_ble_eq_true rfl⟩ rfl rfl rfl (by decide) rfl rfl (zrM (j := 0) rfl) rfl (Nat.le_of_ble_eq_true rfl) dX12_both_79 rfl rfl ?_
      refine z_iload_n (pc := 82) (k0 := 0) E dX12_both_82 rfl rfl ?_
      cases hf
      exact z_iret E hr dX12_both_83
    · have hf := kB_t hf c25
      refine z_aload_n (pc := 68) (k0 := 0) E dX12_both_68 rfl rfl ?_
      refine gM_3 (pc := 69) (i := 0) E rfl wd_3_22 dX12_both_69 ?_
      refine z_goto (pc := 72) (tgt := 77) E dX12_both_72 (by decide) ?_
      refine z_istore_n (pc := 77) (lv' := [(3, .int (SM.1 3)), (0, .ref (aM 200))]) E dX12_both_77 rfl (by decide) rfl ?_
      refine z_aload_n (pc := 78) (k0 := 1) E dX12_both_78 rfl rfl ?_
      obtain ⟨SM_28, h29, hf⟩ := kC_e hf
      refine z_callV0 (pc := 79) (is := [0]) (n := 0) (As := []) (st := []) (st' := []) (C2 := [wM aM ct SM_28]) E (c_X12_putBack (l := l) (G := G) (ct := ct) (aM := aM) h29) wv_X12_putBack wd_34_13 ⟨Nat.le_of_ble_eq_true rfl, Nat.le_of_ble_eq_true rfl, Nat.le_of_ble_eq_true rfl, Nat.le_of_ble_eq_true rfl⟩ rfl rfl rfl (by decide) rfl rfl (zrM (j := 0) rfl) rfl (Nat.le_of_ble_eq_true rfl) dX12_both_79 rfl rfl ?_
      refine z_iload_n (pc := 82) (k0 := 0) E dX12_both_82 rfl rfl ?_
      cases hf
      exact z_iret E hr dX12_both_83
  have L24 : ∀ (n24 : Nat) (SM : zMS) (x1 : Int32) (x2 : Int32) (x3 : Int32), f_X12_both_l24 N n24 SM x1 x2 x3 = some (r0, OM) → zJ p l e rm_X12_both s m args below meth c (zQ G ct (some (.int r0)) [wM aM ct OM] A below args s 0 0) A G 5 0 0 [wM aM ct SM] [(0, .ref (aM 200)), (1, .int x1), (2, .int x2), (3, .int x3)] 24 [] := by
    intro n24
    induction n24 with
    | zero =>
      intro SM x1 x2 x3 hf
      rw [f_X12_both_l24_z] at hf
      cases hf
    | succ n24 ih24 =>
      intro SM x1 x2 x3 hf
      rw [f_X12_both_l24_s] at hf
      refine z_iload_n (pc := 24) (k0 := 3) E dX12_both_24 rfl rfl ?_
      refine z_bipush (pc := 25) (v := 60) E dX12_both_25 (by decide) ?_
      refine z_icmp_ge (pc := 27) (tgt := 60) E dX12_both_27 (by decide) (fun c9 => ?_) (fun c9 => ?_)
      · have hf := kB_t hf c9
        refine z_sub [0] (lv' := [(0, .ref (aM 200))]) rfl ?_
        exact B60 SM hf
      · have hf := kB_f hf c9
        refine z_aload_n (pc := 30) (k0 := 0) E dX12_both_30 rfl rfl ?_
        obtain ⟨r10, h11, hf⟩ := kC_e hf
        refine z_callV0 (pc := 31) (is := [0]) (n := 0) (As := []) (st := []) (st' := [.int r10]) (C2 := [wM aM ct SM]) E (c_X12_isOver (l := l) (G := G) (ct := ct) (aM := aM) h11) wv_X12_isOver wd_30_12 ⟨Nat.le_of_ble_eq_true rfl, Nat.le_of_ble_eq_true rfl, Nat.le_of_ble_eq_true rfl, Nat.le_of_ble_eq_true rfl⟩ rfl rfl rfl (by decide) rfl rfl (zrM (j := 0) rfl) rfl (Nat.le_of_ble_eq_true rfl) dX12_both_31 rfl rfl ?_
        refine z_if_ne (pc := 34) (tgt := 60) E dX12_both_34 (by decide) (fun c12 => ?_) (fun c12 => ?_)
        · have hf := kB_f hf c12
          refine z_sub [0] (lv' := [(0, .ref (aM 200))]) rfl ?_
          exact B60 SM hf
        · have hf := kB_t hf c12
          refine z_aload_n (pc := 37) (k0 := 0) E dX12_both_37 rfl rfl ?_
          refine z_iload_n (pc := 38) (k0 := 3) E dX12_both_38 rfl rfl ?_
          refine z_iconst (pc := 39) (v := 2) E dX12_both_39 (by decide) ?_
          obtain ⟨v13, e_v13, hf⟩ := kL_e hf
          refine z_irem (pc := 40) (v := v13) E dX12_both_40 (by decide) e_v13 ?_
          refine z_if_ne (pc := 41) (tgt := 48) E dX12_both_41 (by decide) (fun c14 => ?_) (fun c14 => ?_)
          · have hf := kB_f hf c14
            refine z_iload_n (pc := 48) (k0 := 2) E dX12_both_48 rfl rfl ?_
            obtain ⟨r15, SM_16, h17, hf⟩ := kD_e hf
            refine z_callV0 (pc := 49) (is := [0]) (n := 1) (As := [.int x2]) (st := []) (st' := [.int r15]) (C2 := [wM aM ct SM_16]) E (c_X12_goAsk (l := l) (G := G) (ct := ct) (aM := aM) h17) wv_X12_goAsk wd_30_16 ⟨Nat.le_of_ble_eq_true rfl, Nat.le_of_ble_eq_true rfl, Nat.le_of_ble_eq_true rfl, Nat.le_of_ble_eq_true rfl⟩ rfl rfl rfl (by decide) rfl rfl (zrM (j := 0) rfl) rfl (Nat.le_of_ble_eq_true rfl) dX12_both_49 rfl rfl ?_
            refine z_istore (pc := 52) (lv' := [(4, .int r15), (0, .ref (aM 200)), (1, .int x1), (2, .int x2), (3, .int x3)]) E dX12_both_52 (by decide) rfl ?_
            obtain ⟨v18, e_v18, hf⟩ := kL_e hf
            refine z_iinc (pc := 54) (k0 := 4) (v := v18) (lv' := [(3, .int v18), (4, .int r15), (0, .ref (aM 200)), (1, .int x1), (2, .int x2)]) E dX12_both_54 rfl e_v18 (by decide) rfl ?_
            refine z_goto (pc := 57) (tgt := 24) E dX12_both_57 (by decide) ?_
            refine z_sub [2, 3, 4, 0] (lv' := [(0, .ref (aM 200)), (1, .int x1), (2, .int x2), (3, .int v18)]) rfl ?_
            exact ih24 SM_16 x1 x2 v18 hf
          · have hf := kB_t hf c14
            refine z_iload_n (pc := 44) (k0 := 1) E dX12_both_44 rfl rfl ?_
            refine z_goto (pc := 45) (tgt := 49) E dX12_both_45 (by decide) ?_
            obtain ⟨r19, SM_20, h21, hf⟩ := kD_e hf
            refine z_callV0 (pc := 49) (is := [0]) (n := 1) (As := [.int x1]) (st := []) (st' := [.int r19]) (C2 := [wM aM ct SM_20]) E (c_X12_goAsk (l := l) (G := G) (ct := ct) (aM := aM) h21) wv_X12_goAsk wd_30_16 ⟨Nat.le_of_ble_eq_true rfl, Nat.le_of_ble_eq_true rfl, Nat.le_of_ble_eq_true rfl, Nat.le_of_ble_eq_true rfl⟩ rfl rfl rfl (by decide) rfl rfl (zrM (j := 0) rfl) rfl (Nat.le_of_ble_eq_true rfl) dX12_both_49 rfl rfl ?_
            refine z_istore (pc := 52) (lv' := [(4, .int r19), (0, .ref (aM 200)), (1, .int x1), (2, .int x2), (3, .int x3)]) E dX12_both_52 (by decide) rfl ?_
            obtain ⟨v22, e_v22, hf⟩ := kL_e hf
            refine z_iinc (pc := 54) (k0 := 4) (v := v22) (lv' := [(3, .int v22), (4, .int r19), (0, .ref (aM 200)), (1, .int x1), (2, .int x2)]) E dX12_both_54 rfl e_v22 (by decide) rfl ?_
            refine z_goto (pc := 57) (tgt := 24) E dX12_both_57 (by decide) ?_
            refine z_sub [2, 3, 4, 0] (lv' := [(0, .ref (aM 200)), (1, .int x1), (2, .int x2), (3, .int v22)]) rfl ?_
            exact ih24 SM_20 x1 x2 v22 hf
  unfold f_X12_both at hf
  refine z_aload_n (pc := 0) (k0 := 0) E dX12_both_0 rfl rfl ?_
  refine z_iload_n (pc := 1) (k0 := 1) E dX12_both_1 rfl rfl ?_
  obtain ⟨r1, h2, hf⟩ := kC_e hf
  refine z_callV0 (pc := 2) (is := [0]) (n := 1) (As := [.int a1]) (st := []) (st' := [.int r1]) (C2 := [wM aM ct SM]) E (c_X12_isParent (l := l) (G := G) (ct := ct) (aM := aM) h2) wv_X12_isParent wd_15_13 ⟨Nat.le_of_ble_eq_true rfl, Nat.le_of_ble_eq_true rfl, Nat.le_of_ble_eq_true rfl, Nat.le_of_ble_eq_true rfl⟩ rfl rfl rfl (by decide) rfl rfl (zrM (j := 0) rfl) rfl (Nat.le_of_ble_eq_true rfl) dX12_both_2 rfl rfl ?_
  refine z_if_eq (pc := 5) (tgt := 16) E dX12_both_5 (by decide) (fun c3 => ?_) (fun c3 => ?_)
  · have hf := kB_t hf c3
    refine z_iconst (pc := 16) (v := (-1)) E dX12_both_16 (by decide) ?_
    cases hf
    exact z_iret E hr dX12_both_17
  · have hf := kB_f hf c3
    refine z_aload_n (pc := 8) (k0 := 0) E dX12_both_8 rfl rfl ?_
    refine z_iload_n (pc := 9) (k0 := 2) E dX12_both_9 rfl rfl ?_
    obtain ⟨r4, h5, hf⟩ := kC_e hf
    refine z_callV0 (pc := 10) (is := [0]) (n := 1) (As := [.int a2]) (st := []) (st' := [.int r4]) (C2 := [wM aM ct SM]) E (c_X12_isParent (l := l) (G := G) (ct := ct) (aM := aM) h5) wv_X12_isParent wd_15_13 ⟨Nat.le_of_ble_eq_true rfl, Nat.le_of_ble_eq_true rfl, Nat.le_of_ble_eq_true rfl, Nat.le_of_ble_eq_true rfl⟩ rfl rfl rfl (by decide) rfl rfl (zrM (j := 0) rfl) rfl (Nat.le_of_ble_eq_true rfl) dX12_both_10 rfl rfl ?_
    refine z_if_ne (pc := 13) (tgt := 18) E dX12_both_13 (by decide) (fun c6 => ?_) (fun c6 => ?_)
    · have hf := kB_f hf c6
      refine z_aload_n (pc := 18) (k0 := 0) E dX12_both_18 rfl rfl ?_
      obtain ⟨SM_7, h8, hf⟩ := kC_e hf
      refine z_callV0 (pc := 19) (is := [0]) (n := 0) (As := []) (st := []) (st' := []) (C2 := [wM aM ct SM_7]) E (c_X12_save (l := l) (G := G) (ct := ct) (aM := aM) h8) wv_X12_save wd_34_5 ⟨Nat.le_of_ble_eq_true rfl, Nat.le_of_ble_eq_true rfl, Nat.le_of_ble_eq_true rfl, Nat.le_of_ble_eq_true rfl⟩ rfl rfl rfl (by decide) rfl rfl (zrM (j := 0) rfl) rfl (Nat.le_of_ble_eq_true rfl) dX12_both_19 rfl rfl ?_
      refine z_iconst (pc := 22) (v := 0) E dX12_both_22 (by decide) ?_
      refine z_istore_n (pc := 23) (lv' := [(3, .int 0), (0, .ref (aM 200)), (1, .int a1), (2, .int a2)]) E dX12_both_23 rfl (by decide) rfl ?_
      refine z_sub [1, 2, 3, 0] (lv' := [(0, .ref (aM 200)), (1, .int a1), (2, .int a2), (3, .int 0)]) rfl ?_
      exact L24 N SM_7 a1 a2 0 hf
    · have hf := kB_t hf c6
      refine z_iconst (pc := 16) (v := (-1)) E dX12_both_16 (by decide) ?_
      cases hf
      exact z_iret E hr dX12_both_17
