noncomputable def f_X12_in (SM : zMS) (a1 : Int32) (a2 : Int32) (a3 : Int32) : Option Int32 := kB (a1 < a2) (some (0)) (kB (a3 < a1) (some (0)) (some (1)))
theorem wv_X12_in : zWV RX12 yX12_in cX12_in 4 (some .boolean) 3 := ⟨wd_7_12, wd_7_13, wd_1_5, wd_7_14, by decide +kernel⟩
def rm_X12_in : Room := { frames := 0, cells := 0, slots := 0, locals := 0 }
set_option maxHeartbeats 4000000 in
set_option maxRecDepth 100000 in
theorem c_X12_in {l : Launch} {G : va_G} {ct : Nat → ClassId} {aM : Nat → Nat} {SM : zMS} {a1 : Int32} {a2 : Int32} {a3 : Int32} {r0 : Int32} (hf : f_X12_in SM a1 a2 a3 = some r0) : zC l yX12_in cX12_in 4 (some .boolean) rm_X12_in G ct [.ref (aM 200), .int a1, .int a2, .int a3] [wM aM ct SM] [wM aM ct SM] (some (.int r0)) 0 0 := by
  refine z_enter (own := RX12) (lv := [(0, .ref (aM 200)), (1, .int a1), (2, .int a2), (3, .int a3)]) (by decide) rfl (Nat.le_of_ble_eq_true rfl) rfl ?_
  intro p e s m args below meth c A E hr hnm
  unfold f_X12_in at hf
  refine z_iload_n (pc := 0) (k0 := 1) E dX12_in_0 rfl rfl ?_
  refine z_iload_n (pc := 1) (k0 := 2) E dX12_in_1 rfl rfl ?_
  refine z_icmp_lt (pc := 2) (tgt := 14) E dX12_in_2 (by decide) (fun c1 => ?_) (fun c1 => ?_)
  · have hf := kB_t hf c1
    refine z_iconst (pc := 14) (v := 0) E dX12_in_14 (by decide) ?_
    cases hf
    exact z_zret E hr (by decide) dX12_in_15
  · have hf := kB_f hf c1
    refine z_iload_n (pc := 5) (k0 := 1) E dX12_in_5 rfl rfl ?_
    refine z_iload_n (pc := 6) (k0 := 3) E dX12_in_6 rfl rfl ?_
    refine z_icmp_gt (pc := 7) (tgt := 14) E dX12_in_7 (by decide) (fun c2 => ?_) (fun c2 => ?_)
    · have hf := kB_t hf c2
      refine z_iconst (pc := 14) (v := 0) E dX12_in_14 (by decide) ?_
      cases hf
      exact z_zret E hr (by decide) dX12_in_15
    · have hf := kB_f hf c2
      refine z_iconst (pc := 10) (v := 1) E dX12_in_10 (by decide) ?_
      refine z_goto (pc := 11) (tgt := 15) E dX12_in_11 (by decide) ?_
      cases hf
      exact z_zret E hr (by decide) dX12_in_15
noncomputable def f_X12_has (SM : zMS) (a1 : Int32) (a2 : Int32) : Option Int32 := kL (a1 >>> (a2 &&& 31)) (fun v1 => kL (v1 &&& 1) (fun v2 => kB (v2 = 1) (some (1)) (some (0))))
theorem wv_X12_has : zWV RX12 yX12_has cX12_has 3 (some .boolean) 2 := ⟨wd_38_2, wd_38_3, wd_1_5, wd_38_4, by decide +kernel⟩
def rm_X12_has : Room := { frames := 0, cells := 0, slots := 0, locals := 0 }
set_option maxHeartbeats 4000000 in
set_option maxRecDepth 100000 in
theorem c_X12_has {l : Launch} {G : va_G} {ct : Nat → ClassId} {aM : Nat → Nat} {SM : zMS} {a1 : Int32} {a2 : Int32} {r0 : Int32} (hf : f_X12_has SM a1 a2 = some r0) : zC l yX12_has cX12_has 3 (some .boolean) rm_X12_has G ct [.ref (aM 200), .int a1, .int a2] [wM aM ct SM] [wM aM ct SM] (some (.int r0)) 0 0 := by
  refine z_enter (own := RX12) (lv := [(0, .ref (aM 200)), (1, .int a1), (2, .int a2)]) (by decide) rfl (Nat.le_of_ble_eq_true rfl) rfl ?_
  intro p e s m args below meth c A E hr hnm
  unfold f_X12_has at hf
  refine z_iload_n (pc := 0) (k0 := 1) E dX12_has_0 rfl rfl ?_
  refine z_iload_n (pc := 1) (k0 := 2) E dX12_has_1 rfl rfl ?_
  obtain ⟨v1, e_v1, hf⟩ := kL_e hf
  refine z_ishr (pc := 2) (v := v1) E dX12_has_2 e_v1 ?_
  refine z_iconst (pc := 3) (v := 1) E dX12_has_3 (by decide) ?_
  obtain ⟨v2, e_v2, hf⟩ := kL_e hf
  refine z_iand (pc := 4) (v := v2) E dX12_has_4 e_v2 ?_
  refine z_iconst (pc := 5) (v := 1) E dX12_has_5 (by decide) ?_
  refine z_icmp_ne (pc := 6) (tgt := 13) E dX12_has_6 (by decide) (fun c3 => ?_) (fun c3 => ?_)
  · have hf := kB_f hf c3
    refine z_iconst (pc := 13) (v := 0) E dX12_has_13 (by decide) ?_
    cases hf
    exact z_zret E hr (by decide) dX12_has_14
  · have hf := kB_t hf c3
    refine z_iconst (pc := 9) (v := 1) E dX12_has_9 (by decide) ?_
    refine z_goto (pc := 10) (tgt := 14) E dX12_has_10 (by decide) ?_
    cases hf
    exact z_zret E hr (by decide) dX12_has_14
noncomputable def f_X12_isThing (SM : zMS) (a1 : Int32) : Option Int32 := kL ((SM.1 0) - 1) (fun v1 => kC (f_X12_in SM a1 0 v1) (fun r2 => kO (r2 = 0 ∨ r2 = 1) (some (r2))))
theorem wv_X12_isThing : zWV RX12 yX12_isThing cX12_isThing 2 (some .boolean) 1 := ⟨wd_11_1, wd_11_2, wd_1_5, wd_11_3, by decide +kernel⟩
def rm_X12_isThing : Room := { frames := 1, cells := 0, slots := 0, locals := 23 }
set_option maxHeartbeats 4000000 in
set_option maxRecDepth 100000 in
theorem c_X12_isThing {l : Launch} {G : va_G} {ct : Nat → ClassId} {aM : Nat → Nat} {SM : zMS} {a1 : Int32} {r0 : Int32} (hf : f_X12_isThing SM a1 = some r0) : zC l yX12_isThing cX12_isThing 2 (some .boolean) rm_X12_isThing G ct [.ref (aM 200), .int a1] [wM aM ct SM] [wM aM ct SM] (some (.int r0)) 0 0 := by
  refine z_enter (own := RX12) (lv := [(0, .ref (aM 200)), (1, .int a1)]) (by decide) rfl (Nat.le_of_ble_eq_true rfl) rfl ?_
  intro p e s m args below meth c A E hr hnm
  unfold f_X12_isThing at hf
  refine z_aload_n (pc := 0) (k0 := 0) E dX12_isThing_0 rfl rfl ?_
  refine z_iload_n (pc := 1) (k0 := 1) E dX12_isThing_1 rfl rfl ?_
  refine z_iconst (pc := 2) (v := 0) E dX12_isThing_2 (by decide) ?_
  refine z_aload_n (pc := 3) (k0 := 0) E dX12_isThing_3 rfl rfl ?_
  refine gM_0 (pc := 4) (i := 0) E rfl wd_3_19 dX12_isThing_4 ?_
  refine z_iconst (pc := 7) (v := 1) E dX12_isThing_7 (by decide) ?_
  obtain ⟨v1, e_v1, hf⟩ := kL_e hf
  refine z_isub (pc := 8) (v := v1) E dX12_isThing_8 e_v1 ?_
  obtain ⟨r2, h3, hf⟩ := kC_e hf
  refine z_callV0 (pc := 9) (is := [0]) (n := 3) (As := [.int a1, .int 0, .int v1]) (st := []) (st' := [.int r2]) (C2 := [wM aM ct SM]) E (c_X12_in (l := l) (G := G) (ct := ct) (aM := aM) h3) wv_X12_in wd_7_11 ⟨Nat.le_of_ble_eq_true rfl, Nat.le_of_ble_eq_true rfl, Nat.le_of_ble_eq_true rfl, Nat.le_of_ble_eq_true rfl⟩ rfl rfl rfl (by decide) rfl rfl (zrM (j := 0) rfl) rfl (Nat.le_of_ble_eq_true rfl) dX12_isThing_9 rfl rfl ?_
  obtain ⟨c4, hf⟩ := kO_e hf
  cases hf
  exact z_zret E hr c4 dX12_isThing_12
noncomputable def f_X12_isParent (SM : zMS) (a1 : Int32) : Option Int32 := kL ((SM.1 1) - 1) (fun v1 => kC (f_X12_in SM a1 0 v1) (fun r2 => kO (r2 = 0 ∨ r2 = 1) (some (r2))))
theorem wv_X12_isParent : zWV RX12 yX12_isParent cX12_isParent 2 (some .boolean) 1 := ⟨wd_15_14, wd_15_15, wd_1_5, wd_15_16, by decide +kernel⟩
def rm_X12_isParent : Room := { frames := 1, cells := 0, slots := 0, locals := 23 }
set_option maxHeartbeats 4000000 in
set_option maxRecDepth 100000 in
theorem c_X12_isParent {l : Launch} {G : va_G} {ct : Nat → ClassId} {aM : Nat → Nat} {SM : zMS} {a1 : Int32} {r0 : Int32} (hf : f_X12_isParent SM a1 = some r0) : zC l yX12_isParent cX12_isParent 2 (some .boolean) rm_X12_isParent G ct [.ref (aM 200), .int a1] [wM aM ct SM] [wM aM ct SM] (some (.int r0)) 0 0 := by
  refine z_enter (own := RX12) (lv := [(0, .ref (aM 200)), (1, .int a1)]) (by decide) rfl (Nat.le_of_ble_eq_true rfl) rfl ?_
  intro p e s m args below meth c A E hr hnm
  unfold f_X12_isParent at hf
  refine z_aload_n (pc := 0) (k0 := 0) E dX12_isParent_0 rfl rfl ?_
  refine z_iload_n (pc := 1) (k0 := 1) E dX12_isParent_1 rfl rfl ?_
  refine z_iconst (pc := 2) (v := 0) E dX12_isParent_2 (by decide) ?_
  refine z_aload_n (pc := 3) (k0 := 0) E dX12_isParent_3 rfl rfl ?_
  refine gM_1 (pc := 4) (i := 0) E rfl wd_3_20 dX12_isParent_4 ?_
  refine z_iconst (pc := 7) (v := 1) E dX12_isParent_7 (by decide) ?_
  obtain ⟨v1, e_v1, hf⟩ := kL_e hf
  refine z_isub (pc := 8) (v := v1) E dX12_isParent_8 e_v1 ?_
  obtain ⟨r2, h3, hf⟩ := kC_e hf
  refine z_callV0 (pc := 9) (is := [0]) (n := 3) (As := [.int a1, .int 0, .int v1]) (st := []) (st' := [.int r2]) (C2 := [wM aM ct SM]) E (c_X12_in (l := l) (G := G) (ct := ct) (aM := aM) h3) wv_X12_in wd_7_11 ⟨Nat.le_of_ble_eq_true rfl, Nat.le_of_ble_eq_true rfl, Nat.le_of_ble_eq_true rfl, Nat.le_of_ble_eq_true rfl⟩ rfl rfl rfl (by decide) rfl rfl (zrM (j := 0) rfl) rfl (Nat.le_of_ble_eq_true rfl) dX12_isParent_9 rfl rfl ?_
  obtain ⟨c4, hf⟩ := kO_e hf
  cases hf
  exact z_zret E hr c4 dX12_isParent_12
noncomputable def f_X12_thing (SM : zMS) (a1 : Int32) (a2 : Int32) : Option (Int32 × zMS) := kC (f_X12_in SM a1 1 20) (fun r1 => kB (r1 = 0) (some ((-2), SM)) (kC (f_X12_in SM a2 0 9) (fun r4 => kB (r4 = 0) (some ((-2), SM)) (kB ((SM.1 0) = 7) (some ((-4), SM)) (kO (¬ ((SM.1 0) < 0 ∨ 7 ≤ Int32.toNatClampNeg (SM.1 0))) (kL (mSA SM 8 (upd (SM.2.1 8) (Int32.toNatClampNeg (SM.1 0)) a1)) (fun SM_9 => kO (¬ ((SM_9.1 0) < 0 ∨ 7 ≤ Int32.toNatClampNeg (SM_9.1 0))) (kL (mSA SM_9 9 (upd (SM_9.2.1 9) (Int32.toNatClampNeg (SM_9.1 0)) a2)) (fun SM_11 => kO (¬ ((SM_11.1 0) < 0 ∨ 7 ≤ Int32.toNatClampNeg (SM_11.1 0))) (kL (mSA SM_11 10 (upd (SM_11.2.1 10) (Int32.toNatClampNeg (SM_11.1 0)) 0)) (fun SM_13 => kL ((SM_13.1 0) + 1) (fun v14 => kL (mSI SM_13 0 v14) (fun SM_15 => kL ((SM_15.1 0) - 1) (fun v16 => some (v16, SM_15)))))))))))))))
theorem wv_X12_thing : zWV RX12 yX12_thing cX12_thing 3 (some .int) 2 := ⟨wd_7_8, wd_7_9, wd_1_5, wd_7_10, by decide +kernel⟩
def rm_X12_thing : Room := { frames := 1, cells := 0, slots := 0, locals := 23 }
set_option maxHeartbeats 4000000 in
set_option maxRecDepth 100000 in
theorem c_X12_thing {l : Launch} {G : va_G} {ct : Nat → ClassId} {aM : Nat → Nat} {SM : zMS} {a1 : Int32} {a2 : Int32} {r0 : Int32} {OM : zMS} (hf : f_X12_thing SM a1 a2 = some (r0, OM)) : zC l yX12_thing cX12_thing 3 (some .int) rm_X12_thing G ct [.ref (aM 200), .int a1, .int a2] [wM aM ct SM] [wM aM ct OM] (some (.int r0)) 0 0 := by
  refine z_enter (own := RX12) (lv := [(0, .ref (aM 200)), (1, .int a1), (2, .int a2)]) (by decide) rfl (Nat.le_of_ble_eq_true rfl) rfl ?_
  intro p e s m args below meth c A E hr hnm
  unfold f_X12_thing at hf
  refine z_aload_n (pc := 0) (k0 := 0) E dX12_thing_0 rfl rfl ?_
  refine z_iload_n (pc := 1) (k0 := 1) E dX12_thing_1 rfl rfl ?_
  refine z_iconst (pc := 2) (v := 1) E dX12_thing_2 (by decide) ?_
  refine z_bipush (pc := 3) (v := 20) E dX12_thing_3 (by decide) ?_
  obtain ⟨r1, h2, hf⟩ := kC_e hf
  refine z_callV0 (pc := 5) (is := [0]) (n := 3) (As := [.int a1, .int 1, .int 20]) (st := []) (st' := [.int r1]) (C2 := [wM aM ct SM]) E (c_X12_in (l := l) (G := G) (ct := ct) (aM := aM) h2) wv_X12_in wd_7_11 ⟨Nat.le_of_ble_eq_true rfl, Nat.le_of_ble_eq_true rfl, Nat.le_of_ble_eq_true rfl, Nat.le_of_ble_eq_true rfl⟩ rfl rfl rfl (by decide) rfl rfl (zrM (j := 0) rfl) rfl (Nat.le_of_ble_eq_true rfl) dX12_thing_5 rfl rfl ?_
  refine z_if_eq (pc := 8) (tgt := 22) E dX12_thing_8 (by decide) (fun c3 => ?_) (fun c3 => ?_)
  · have hf := kB_t hf c3
    refine z_bipush (pc := 22) (v := (-2)) E dX12_thing_22 (by decide) ?_
    cases hf
    exact z_iret E hr dX12_thing_24
  · have hf := kB_f hf c3
    refine z_aload_n (pc := 11) (k0 := 0) E dX12_thing_11 rfl rfl ?_
    refine z_iload_n (pc := 12) (k0 := 2) E dX12_thing_12 rfl rfl ?_
    refine z_iconst (pc := 13) (v := 0) E dX12_thing_13 (by decide) ?_
    refine z_bipush (pc := 14) (v := 9) E dX12_thing_14 (by decide) ?_
    obtain ⟨r4, h5, hf⟩ := kC_e hf
    refine z_callV0 (pc := 16) (is := [0]) (n := 3) (As := [.int a2, .int 0, .int 9]) (st := []) (st' := [.int r4]) (C2 := [wM aM ct SM]) E (c_X12_in (l := l) (G := G) (ct := ct) (aM := aM) h5) wv_X12_in wd_7_11 ⟨Nat.le_of_ble_eq_true rfl, Nat.le_of_ble_eq_true rfl, Nat.le_of_ble_eq_true rfl, Nat.le_of_ble_eq_true rfl⟩ rfl rfl rfl (by decide) rfl rfl (zrM (j := 0) rfl) rfl (Nat.le_of_ble_eq_true rfl) dX12_thing_16 rfl rfl ?_
    refine z_if_ne (pc := 19) (tgt := 25) E dX12_thing_19 (by decide) (fun c6 => ?_) (fun c6 => ?_)
    · have hf := kB_f hf c6
      refine z_aload_n (pc := 25) (k0 := 0) E dX12_thing_25 rfl rfl ?_
      refine gM_0 (pc := 26) (i := 0) E rfl wd_3_19 dX12_thing_26 ?_
      refine z_bipush (pc := 29) (v := 7) E dX12_thing_29 (by decide) ?_
      refine z_icmp_ne (pc := 31) (tgt := 37) E dX12_thing_31 (by decide) (fun c7 => ?_) (fun c7 => ?_)
      · have hf := kB_f hf c7
        refine z_aload_n (pc := 37) (k0 := 0) E dX12_thing_37 rfl rfl ?_
        refine gM_8 (pc := 38) (i := 0) E rfl wd_4_3 dX12_thing_38 ?_
        refine z_aload_n (pc := 41) (k0 := 0) E dX12_thing_41 rfl rfl ?_
        refine gM_0 (pc := 42) (i := 0) E rfl wd_3_19 dX12_thing_42 ?_
        refine z_iload_n (pc := 45) (k0 := 1) E dX12_thing_45 rfl rfl ?_
        obtain ⟨c8, hf⟩ := kO_e hf
        obtain ⟨SM_9, e_SM_9, hf⟩ := kL_e hf
        refine sM_8 (pc := 46) (i := 0) (S1 := SM_9) E rfl c8 e_SM_9 dX12_thing_46 ?_
        show zJ p l e rm_X12_thing s m args below meth c (zQ G ct (some (.int r0)) [wM aM ct OM] A below args s 0 0) A G 3 0 0 [wM aM ct SM_9] [(0, .ref (aM 200)), (1, .int a1), (2, .int a2)] 47 []
        refine z_aload_n (pc := 47) (k0 := 0) E dX12_thing_47 rfl rfl ?_
        refine gM_9 (pc := 48) (i := 0) E rfl wd_4_4 dX12_thing_48 ?_
        refine z_aload_n (pc := 51) (k0 := 0) E dX12_thing_51 rfl rfl ?_
        refine gM_0 (pc := 52) (i := 0) E rfl wd_3_19 dX12_thing_52 ?_
        refine z_iload_n (pc := 55) (k0 := 2) E dX12_thing_55 rfl rfl ?_
        obtain ⟨c10, hf⟩ := kO_e hf
        obtain ⟨SM_11, e_SM_11, hf⟩ := kL_e hf
        refine sM_9 (pc := 56) (i := 0) (S1 := SM_11) E rfl c10 e_SM_11 dX12_thing_56 ?_
        show zJ p l e rm_X12_thing s m args below meth c (zQ G ct (some (.int r0)) [wM aM ct OM] A below args s 0 0) A G 3 0 0 [wM aM ct SM_11] [(0, .ref (aM 200)), (1, .int a1), (2, .int a2)] 57 []
        refine z_aload_n (pc := 57) (k0 := 0) E dX12_thing_57 rfl rfl ?_
        refine gM_10 (pc := 58) (i := 0) E rfl wd_4_5 dX12_thing_58 ?_
        refine z_aload_n (pc := 61) (k0 := 0) E dX12_thing_61 rfl rfl ?_
        refine gM_0 (pc := 62) (i := 0) E rfl wd_3_19 dX12_thing_62 ?_
        refine z_iconst (pc := 65) (v := 0) E dX12_thing_65 (by decide) ?_
        obtain ⟨c12, hf⟩ := kO_e hf
        obtain ⟨SM_13, e_SM_13, hf⟩ := kL_e hf
        refine sM_10 (pc := 66) (i := 0) (S1 := SM_13) E rfl c12 e_SM_13 dX12_thing_66 ?_
        show zJ p l e rm_X12_thing s m args below meth c (zQ G ct (some (.int r0)) [wM aM ct OM] A below args s 0 0) A G 3 0 0 [wM aM ct SM_13] [(0, .ref (aM 200)), (1, .int a1), (2, .int a2)] 67 []
        refine z_aload_n (pc := 67) (k0 := 0) E dX12_thing_67 rfl rfl ?_
        refine z_dup (pc := 68) E dX12_thing_68 rfl ?_
        refine gM_0 (pc := 69) (i := 0) E rfl wd_3_19 dX12_thing_69 ?_
        refine z_iconst (pc := 72) (v := 1) E dX12_thing_72 (by decide) ?_
        obtain ⟨v14, e_v14, hf⟩ := kL_e hf
        refine z_iadd (pc := 73) (v := v14) E dX12_thing_73 e_v14 ?_
        obtain ⟨SM_15, e_SM_15, hf⟩ := kL_e hf
        refine pM_0 (pc := 74) (i := 0) (S1 := SM_15) E rfl e_SM_15 wd_3_19 dX12_thing_74 ?_
        show zJ p l e rm_X12_thing s m args below meth c (zQ G ct (some (.int r0)) [wM aM ct OM] A below args s 0 0) A G 3 0 0 [wM aM ct SM_15] [(0, .ref (aM 200)), (1, .int a1), (2, .int a2)] 77 []
        refine z_aload_n (pc := 77) (k0 := 0) E dX12_thing_77 rfl rfl ?_
        refine gM_0 (pc := 78) (i := 0) E rfl wd_3_19 dX12_thing_78 ?_
        refine z_iconst (pc := 81) (v := 1) E dX12_thing_81 (by decide) ?_
        obtain ⟨v16, e_v16, hf⟩ := kL_e hf
        refine z_isub (pc := 82) (v := v16) E dX12_thing_82 e_v16 ?_
        cases hf
        exact z_iret E hr dX12_thing_83
      · have hf := kB_t hf c7
        refine z_bipush (pc := 34) (v := (-4)) E dX12_thing_34 (by decide) ?_
        cases hf
        exact z_iret E hr dX12_thing_36
    · have hf := kB_t hf c6
      refine z_bipush (pc := 22) (v := (-2)) E dX12_thing_22 (by decide) ?_
      cases hf
      exact z_iret E hr dX12_thing_24
noncomputable def f_X12_parent_l60 (N : Nat) : Nat → zMS → Int32 → Option (Int32 × zMS) := fun n => Nat.rec (motive := fun _ => zMS → Int32 → Option (Int32 × zMS)) (fun _ _ => none) (fun _ ih SM x3 => kB (4 ≤ x3) (kL ((SM.1 1) + 1) (fun v13 => kL (mSI SM 1 v13) (fun SM_14 => kL ((SM_14.1 1) - 1) (fun v15 => some (v15, SM_14))))) (kL ((4 : Int32) * (SM.1 1)) (fun v16 => kL (v16 + x3) (fun v17 => kO (¬ (v17 < 0 ∨ 16 ≤ Int32.toNatClampNeg v17)) (kL (mSA SM 13 (upd (SM.2.1 13) (Int32.toNatClampNeg v17) 1)) (fun SM_19 => kL (x3 + 1) (fun v20 => ih SM_19 v20))))))) n
theorem f_X12_parent_l60_z (N : Nat) (SM : zMS) (x3 : Int32) : f_X12_parent_l60 N 0 SM x3 = none := rfl
theorem f_X12_parent_l60_s (N : Nat) (n : Nat) (SM : zMS) (x3 : Int32) : f_X12_parent_l60 N (n + 1) SM x3 = kB (4 ≤ x3) (kL ((SM.1 1) + 1) (fun v13 => kL (mSI SM 1 v13) (fun SM_14 => kL ((SM_14.1 1) - 1) (fun v15 => some (v15, SM_14))))) (kL ((4 : Int32) * (SM.1 1)) (fun v16 => kL (v16 + x3) (fun v17 => kO (¬ (v17 < 0 ∨ 16 ≤ Int32.toNatClampNeg v17)) (kL (mSA SM 13 (upd (SM.2.1 13) (Int32.toNatClampNeg v17) 1)) (fun SM_19 => kL (x3 + 1) (fun v20 => (f_X12_parent_l60 N n) SM_19 v20)))))) := rfl
noncomputable def f_X12_parent (N : Nat) (SM : zMS) (a1 : Int32) (a2 : Int32) : Option (Int32 × zMS) := kC (f_X12_in SM a1 0 6) (fun r1 => kB (r1 = 0) (some ((-1), SM)) (kC (f_X12_in SM a2 0 9) (fun r4 => kB (r4 = 0) (some ((-2), SM)) (kB ((SM.1 1) = 4) (some ((-4), SM)) (kO (¬ ((SM.1 1) < 0 ∨ 4 ≤ Int32.toNatClampNeg (SM.1 1))) (kL (mSA SM 11 (upd (SM.2.1 11) (Int32.toNatClampNeg (SM.1 1)) a1)) (fun SM_9 => kO (¬ ((SM_9.1 1) < 0 ∨ 4 ≤ Int32.toNatClampNeg (SM_9.1 1))) (kL (mSA SM_9 12 (upd (SM_9.2.1 12) (Int32.toNatClampNeg (SM_9.1 1)) a2)) (fun SM_11 => f_X12_parent_l60 N N SM_11 0)))))))))
theorem wv_X12_parent : zWV RX12 yX12_parent cX12_parent 4 (some .int) 2 := ⟨wd_10_8, wd_10_9, wd_1_5, wd_10_10, by decide +kernel⟩
def rm_X12_parent : Room := { frames := 1, cells := 0, slots := 0, locals := 23 }
set_option maxHeartbeats 4000000 in
set_option maxRecDepth 100000 in
theorem c_X12_parent {l : Launch} {G : va_G} {ct : Nat → ClassId} {aM : Nat → Nat} {N : Nat} {SM : zMS} {a1 : Int32} {a2 : Int32} {r0 : Int32} {OM : zMS} (hf : f_X12_parent N SM a1 a2 = some (r0, OM)) : zC l yX12_parent cX12_parent 4 (some .int) rm_X12_parent G ct [.ref (aM 200), .int a1, .int a2] [wM aM ct SM] [wM aM ct OM] (some (.int r0)) 0 0 := by
  refine z_enter (own := RX12) (lv := [(0, .ref (aM 200)), (1, .int a1), (2, .int a2)]) (by decide) rfl (Nat.le_of_ble_eq_true rfl) rfl ?_
  intro p e s m args below meth c A E hr hnm
  have L60 : ∀ (n60 : Nat) (SM : zMS) (x3 : Int32), f_X12_parent_l60 N n60 SM x3 = some (r0, OM) → zJ p l e rm_X12_parent s m args below meth c (zQ G ct (some (.int r0)) [wM aM ct OM] A below args s 0 0) A G 4 0 0 [wM aM ct SM] [(0, .ref (aM 200)), (3, .int x3)] 60 [] := by
    intro n60
    induction n60 with
    | zero =>
      intro SM x3 hf
      rw [f_X12_parent_l60_z] at hf
      cases hf
    | succ n60 ih60 =>
      intro SM x3 hf
      rw [f_X12_parent_l60_s] at hf
      refine z_iload_n (pc := 60) (k0 := 1) E dX12_parent_60 rfl rfl ?_
      refine z_iconst (pc := 61) (v := 4) E dX12_parent_61 (by decide) ?_
      refine z_icmp_ge (pc := 62) (tgt := 85) E dX12_parent_62 (by decide) (fun c12 => ?_) (fun c12 => ?_)
      · have hf := kB_t hf c12
        refine z_aload_n (pc := 85) (k0 := 0) E dX12_parent_85 rfl rfl ?_
        refine z_dup (pc := 86) E dX12_parent_86 rfl ?_
        refine gM_1 (pc := 87) (i := 0) E rfl wd_3_20 dX12_parent_87 ?_
        refine z_iconst (pc := 90) (v := 1) E dX12_parent_90 (by decide) ?_
        obtain ⟨v13, e_v13, hf⟩ := kL_e hf
        refine z_iadd (pc := 91) (v := v13) E dX12_parent_91 e_v13 ?_
        obtain ⟨SM_14, e_SM_14, hf⟩ := kL_e hf
        refine pM_1 (pc := 92) (i := 0) (S1 := SM_14) E rfl e_SM_14 wd_3_20 dX12_parent_92 ?_
        show zJ p l e rm_X12_parent s m args below meth c (zQ G ct (some (.int r0)) [wM aM ct OM] A below args s 0 0) A G 4 0 0 [wM aM ct SM_14] [(0, .ref (aM 200)), (3, .int x3)] 95 []
        refine z_aload_n (pc := 95) (k0 := 0) E dX12_parent_95 rfl rfl ?_
        refine gM_1 (pc := 96) (i := 0) E rfl wd_3_20 dX12_parent_96 ?_
        refine z_iconst (pc := 99) (v := 1) E dX12_parent_99 (by decide) ?_
        obtain ⟨v15, e_v15, hf⟩ := kL_e hf
        refine z_isub (pc := 100) (v := v15) E dX12_parent_100 e_v15 ?_
        cases hf
        exact z_iret E hr dX12_parent_101
      · have hf := kB_f hf c12
        refine z_aload_n (pc := 65) (k0 := 0) E dX12_parent_65 rfl rfl ?_
        refine gM_13 (pc := 66) (i := 0) E rfl wd_4_8 dX12_parent_66 ?_
        refine z_iconst (pc := 69) (v := 4) E dX12_parent_69 (by decide) ?_
        refine z_aload_n (pc := 70) (k0 := 0) E dX12_parent_70 rfl rfl ?_
        refine gM_1 (pc := 71) (i := 0) E rfl wd_3_20 dX12_parent_71 ?_
        obtain ⟨v16, e_v16, hf⟩ := kL_e hf
        refine z_imul (pc := 74) (v := v16) E dX12_parent_74 e_v16 ?_
        refine z_iload_n (pc := 75) (k0 := 1) E dX12_parent_75 rfl rfl ?_
        obtain ⟨v17, e_v17, hf⟩ := kL_e hf
        refine z_iadd (pc := 76) (v := v17) E dX12_parent_76 e_v17 ?_
        refine z_iconst (pc := 77) (v := 1) E dX12_parent_77 (by decide) ?_
        obtain ⟨c18, hf⟩ := kO_e hf
        obtain ⟨SM_19, e_SM_19, hf⟩ := kL_e hf
        refine sM_13 (pc := 78) (i := 0) (S1 := SM_19) E rfl c18 e_SM_19 dX12_parent_78 ?_
        show zJ p l e rm_X12_parent s m args below meth c (zQ G ct (some (.int r0)) [wM aM ct OM] A below args s 0 0) A G 4 0 0 [wM aM ct SM_19] [(0, .ref (aM 200)), (3, .int x3)] 79 []
        obtain ⟨v20, e_v20, hf⟩ := kL_e hf
        refine z_iinc (pc := 79) (k0 := 1) (v := v20) (lv' := [(3, .int v20), (0, .ref (aM 200))]) E dX12_parent_79 rfl e_v20 (by decide) rfl ?_
        refine z_goto (pc := 82) (tgt := 60) E dX12_parent_82 (by decide) ?_
        refine z_sub [1, 0] (lv' := [(0, .ref (aM 200)), (3, .int v20)]) rfl ?_
        exact ih60 SM_19 v20 hf
  unfold f_X12_parent at hf
  refine z_aload_n (pc := 0) (k0 := 0) E dX12_parent_0 rfl rfl ?_
  refine z_iload_n (pc := 1) (k0 := 1) E dX12_parent_1 rfl rfl ?_
  refine z_iconst (pc := 2) (v := 0) E dX12_parent_2 (by decide) ?_
  refine z_bipush (pc := 3) (v := 6) E dX12_parent_3 (by decide) ?_
  obtain ⟨r1, h2, hf⟩ := kC_e hf
  refine z_callV0 (pc := 5) (is := [0]) (n := 3) (As := [.int a1, .int 0, .int 6]) (st := []) (st' := [.int r1]) (C2 := [wM aM ct SM]) E (c_X12_in (l := l) (G := G) (ct := ct) (aM := aM) h2) wv_X12_in wd_7_11 ⟨Nat.le_of_ble_eq_true rfl, Nat.le_of_ble_eq_true rfl, Nat.le_of_ble_eq_true rfl, Nat.le_of_ble_eq_true rfl⟩ rfl rfl rfl (by decide) rfl rfl (zrM (j := 0) rfl) rfl (Nat.le_of_ble_eq_true rfl) dX12_parent_5 rfl rfl ?_
  refine z_if_ne (pc := 8) (tgt := 13) E dX12_parent_8 (by decide) (fun c3 => ?_) (fun c3 => ?_)
  · have hf := kB_f hf c3
    refine z_aload_n (pc := 13) (k0 := 0) E dX12_parent_13 rfl rfl ?_
    refine z_iload_n (pc := 14) (k0 := 2) E dX12_parent_14 rfl rfl ?_
    refine z_iconst (pc := 15) (v := 0) E dX12_parent_15 (by decide) ?_
    refine z_bipush (pc := 16) (v := 9) E dX12_parent_16 (by decide) ?_
    obtain ⟨r4, h5, hf⟩ := kC_e hf
    refine z_callV0 (pc := 18) (is := [0]) (n := 3) (As := [.int a2, .int 0, .int 9]) (st := []) (st' := [.int r4]) (C2 := [wM aM ct SM]) E (c_X12_in (l := l) (G := G) (ct := ct) (aM := aM) h5) wv_X12_in wd_7_11 ⟨Nat.le_of_ble_eq_true rfl, Nat.le_of_ble_eq_true rfl, Nat.le_of_ble_eq_true rfl, Nat.le_of_ble_eq_true rfl⟩ rfl rfl rfl (by decide) rfl rfl (zrM (j := 0) rfl) rfl (Nat.le_of_ble_eq_true rfl) dX12_parent_18 rfl rfl ?_
    refine z_if_ne (pc := 21) (tgt := 27) E dX12_parent_21 (by decide) (fun c6 => ?_) (fun c6 => ?_)
    · have hf := kB_f hf c6
      refine z_aload_n (pc := 27) (k0 := 0) E dX12_parent_27 rfl rfl ?_
      refine gM_1 (pc := 28) (i := 0) E rfl wd_3_20 dX12_parent_28 ?_
      refine z_iconst (pc := 31) (v := 4) E dX12_parent_31 (by decide) ?_
      refine z_icmp_ne (pc := 32) (tgt := 38) E dX12_parent_32 (by decide) (fun c7 => ?_) (fun c7 => ?_)
      · have hf := kB_f hf c7
        refine z_aload_n (pc := 38) (k0 := 0) E dX12_parent_38 rfl rfl ?_
        refine gM_11 (pc := 39) (i := 0) E rfl wd_4_6 dX12_parent_39 ?_
        refine z_aload_n (pc := 42) (k0 := 0) E dX12_parent_42 rfl rfl ?_
        refine gM_1 (pc := 43) (i := 0) E rfl wd_3_20 dX12_parent_43 ?_
        refine z_iload_n (pc := 46) (k0 := 1) E dX12_parent_46 rfl rfl ?_
        obtain ⟨c8, hf⟩ := kO_e hf
        obtain ⟨SM_9, e_SM_9, hf⟩ := kL_e hf
        refine sM_11 (pc := 47) (i := 0) (S1 := SM_9) E rfl c8 e_SM_9 dX12_parent_47 ?_
        show zJ p l e rm_X12_parent s m args below meth c (zQ G ct (some (.int r0)) [wM aM ct OM] A below args s 0 0) A G 4 0 0 [wM aM ct SM_9] [(0, .ref (aM 200)), (1, .int a1), (2, .int a2)] 48 []
        refine z_aload_n (pc := 48) (k0 := 0) E dX12_parent_48 rfl rfl ?_
        refine gM_12 (pc := 49) (i := 0) E rfl wd_4_7 dX12_parent_49 ?_
        refine z_aload_n (pc := 52) (k0 := 0) E dX12_parent_52 rfl rfl ?_
        refine gM_1 (pc := 53) (i := 0) E rfl wd_3_20 dX12_parent_53 ?_
        refine z_iload_n (pc := 56) (k0 := 2) E dX12_parent_56 rfl rfl ?_
        obtain ⟨c10, hf⟩ := kO_e hf
        obtain ⟨SM_11, e_SM_11, hf⟩ := kL_e hf
        refine sM_12 (pc := 57) (i := 0) (S1 := SM_11) E rfl c10 e_SM_11 dX12_parent_57 ?_
        show zJ p l e rm_X12_parent s m args below meth c (zQ G ct (some (.int r0)) [wM aM ct OM] A below args s 0 0) A G 4 0 0 [wM aM ct SM_11] [(0, .ref (aM 200)), (1, .int a1), (2, .int a2)] 58 []
        refine z_iconst (pc := 58) (v := 0) E dX12_parent_58 (by decide) ?_
        refine z_istore_n (pc := 59) (lv' := [(3, .int 0), (0, .ref (aM 200)), (1, .int a1), (2, .int a2)]) E dX12_parent_59 rfl (by decide) rfl ?_
        refine z_sub [1, 0] (lv' := [(0, .ref (aM 200)), (3, .int 0)]) rfl ?_
        exact L60 N SM_11 0 hf
      · have hf := kB_t hf c7
        refine z_bipush (pc := 35) (v := (-4)) E dX12_parent_35 (by decide) ?_
        cases hf
        exact z_iret E hr dX12_parent_37
    · have hf := kB_t hf c6
      refine z_bipush (pc := 24) (v := (-2)) E dX12_parent_24 (by decide) ?_
      cases hf
      exact z_iret E hr dX12_parent_26
  · have hf := kB_t hf c3
    refine z_iconst (pc := 11) (v := (-1)) E dX12_parent_11 (by decide) ?_
    cases hf
    exact z_iret E hr dX12_parent_12
noncomputable def f_X12_at (SM : zMS) (a1 : Int32) (a2 : Int32) : Option Int32 := kC (f_X12_isThing SM a1) (fun r1 => kB (r1 = 0) (some ((-1))) (kB (a2 = 0) (kO (¬ (a1 < 0 ∨ 7 ≤ Int32.toNatClampNeg a1)) (some ((SM.2.1 8 (Int32.toNatClampNeg a1))))) (kB (a2 = 1) (kO (¬ (a1 < 0 ∨ 7 ≤ Int32.toNatClampNeg a1)) (some ((SM.2.1 9 (Int32.toNatClampNeg a1))))) (kB (a2 = 2) (kO (¬ (a1 < 0 ∨ 7 ≤ Int32.toNatClampNeg a1)) (some ((SM.2.1 10 (Int32.toNatClampNeg a1))))) (some ((-1)))))))
theorem wv_X12_at : zWV RX12 yX12_at cX12_at 3 (some .int) 2 := ⟨wd_10_21, wd_10_22, wd_1_5, wd_10_23, by decide +kernel⟩
def rm_X12_at : Room := { frames := 2, cells := 0, slots := 0, locals := 44 }
set_option maxHeartbeats 4000000 in
set_option maxRecDepth 100000 in
theorem c_X12_at {l : Launch} {G : va_G} {ct : Nat → ClassId} {aM : Nat → Nat} {SM : zMS} {a1 : Int32} {a2 : Int32} {r0 : Int32} (hf : f_X12_at SM a1 a2 = some r0) : zC l yX12_at cX12_at 3 (some .int) rm_X12_at G ct [.ref (aM 200), .int a1, .int a2] [wM aM ct SM] [wM aM ct SM] (some (.int r0)) 0 0 := by
  refine z_enter (own := RX12) (lv := [(0, .ref (aM 200)), (1, .int a1), (2, .int a2)]) (by decide) rfl (Nat.le_of_ble_eq_true rfl) rfl ?_
  intro p e s m args below meth c A E hr hnm
  unfold f_X12_at at hf
  refine z_aload_n (pc := 0) (k0 := 0) E dX12_at_0 rfl rfl ?_
  refine z_iload_n (pc := 1) (k0 := 1) E dX12_at_1 rfl rfl ?_
  obtain ⟨r1, h2, hf⟩ := kC_e hf
  refine z_callV0 (pc := 2) (is := [0]) (n := 1) (As := [.int a1]) (st := []) (st' := [.int r1]) (C2 := [wM aM ct SM]) E (c_X12_isThing (l := l) (G := G) (ct := ct) (aM := aM) h2) wv_X12_isThing wd_11_0 ⟨Nat.le_of_ble_eq_true rfl, Nat.le_of_ble_eq_true rfl, Nat.le_of_ble_eq_true rfl, Nat.le_of_ble_eq_true rfl⟩ rfl rfl rfl (by decide) rfl rfl (zrM (j := 0) rfl) rfl (Nat.le_of_ble_eq_true rfl) dX12_at_2 rfl rfl ?_
  refine z_if_ne (pc := 5) (tgt := 12) E dX12_at_5 (by decide) (fun c3 => ?_) (fun c3 => ?_)
  · have hf := kB_f hf c3
    refine z_iload_n (pc := 12) (k0 := 2) E dX12_at_12 rfl rfl ?_
    refine z_if_ne (pc := 13) (tgt := 25) E dX12_at_13 (by decide) (fun c4 => ?_) (fun c4 => ?_)
    · have hf := kB_f hf c4
      refine z_iload_n (pc := 25) (k0 := 2) E dX12_at_25 rfl rfl ?_
      refine z_iconst (pc := 26) (v := 1) E dX12_at_26 (by decide) ?_
      refine z_icmp_ne (pc := 27) (tgt := 39) E dX12_at_27 (by decide) (fun c5 => ?_) (fun c5 => ?_)
      · have hf := kB_f hf c5
        refine z_iload_n (pc := 39) (k0 := 2) E dX12_at_39 rfl rfl ?_
        refine z_iconst (pc := 40) (v := 2) E dX12_at_40 (by decide) ?_
        refine z_icmp_ne (pc := 41) (tgt := 53) E dX12_at_41 (by decide) (fun c6 => ?_) (fun c6 => ?_)
        · have hf := kB_f hf c6
          refine z_iconst (pc := 53) (v := (-1)) E dX12_at_53 (by decide) ?_
          cases hf
          exact z_iret E hr dX12_at_54
        · have hf := kB_t hf c6
          refine z_aload_n (pc := 44) (k0 := 0) E dX12_at_44 rfl rfl ?_
          refine gM_10 (pc := 45) (i := 0) E rfl wd_4_5 dX12_at_45 ?_
          refine z_iload_n (pc := 48) (k0 := 1) E dX12_at_48 rfl rfl ?_
          obtain ⟨c7, hf⟩ := kO_e hf
          refine lM_10 (pc := 49) (i := 0) E rfl c7 dX12_at_49 ?_
          refine z_goto (pc := 50) (tgt := 54) E dX12_at_50 (by decide) ?_
          cases hf
          exact z_iret E hr dX12_at_54
      · have hf := kB_t hf c5
        refine z_aload_n (pc := 30) (k0 := 0) E dX12_at_30 rfl rfl ?_
        refine gM_9 (pc := 31) (i := 0) E rfl wd_4_4 dX12_at_31 ?_
        refine z_iload_n (pc := 34) (k0 := 1) E dX12_at_34 rfl rfl ?_
        obtain ⟨c8, hf⟩ := kO_e hf
        refine lM_9 (pc := 35) (i := 0) E rfl c8 dX12_at_35 ?_
        refine z_goto (pc := 36) (tgt := 54) E dX12_at_36 (by decide) ?_
        cases hf
        exact z_iret E hr dX12_at_54
    · have hf := kB_t hf c4
      refine z_aload_n (pc := 16) (k0 := 0) E dX12_at_16 rfl rfl ?_
      refine gM_8 (pc := 17) (i := 0) E rfl wd_4_3 dX12_at_17 ?_
      refine z_iload_n (pc := 20) (k0 := 1) E dX12_at_20 rfl rfl ?_
      obtain ⟨c9, hf⟩ := kO_e hf
      refine lM_8 (pc := 21) (i := 0) E rfl c9 dX12_at_21 ?_
      refine z_goto (pc := 22) (tgt := 54) E dX12_at_22 (by decide) ?_
      cases hf
      exact z_iret E hr dX12_at_54
  · have hf := kB_t hf c3
    refine z_iconst (pc := 8) (v := (-1)) E dX12_at_8 (by decide) ?_
    refine z_goto (pc := 9) (tgt := 54) E dX12_at_9 (by decide) ?_
    cases hf
    exact z_iret E hr dX12_at_54
noncomputable def f_X12_habit (SM : zMS) (a1 : Int32) (a2 : Int32) : Option (Int32 × zMS) := kC (f_X12_isThing SM a1) (fun r1 => kB (r1 = 0) (some ((-1), SM)) (kC (f_X12_in SM a2 0 999) (fun r4 => kB (r4 = 0) (some ((-2), SM)) (kO (¬ (a1 < 0 ∨ 7 ≤ Int32.toNatClampNeg a1)) (kO (¬ (a1 < 0 ∨ 7 ≤ Int32.toNatClampNeg a1)) (kL (mSA SM 10 (upd (SM.2.1 10) (Int32.toNatClampNeg a1) a2)) (fun SM_9 => some ((SM.2.1 10 (Int32.toNatClampNeg a1)), SM_9))))))))
theorem wv_X12_habit : zWV RX12 yX12_habit cX12_habit 4 (some .int) 2 := ⟨wd_17_10, wd_17_11, wd_1_5, wd_17_12, by decide +kernel⟩
def rm_X12_habit : Room := { frames := 2, cells := 0, slots := 0, locals := 44 }
set_option maxHeartbeats 4000000 in
set_option maxRecDepth 100000 in
theorem c_X12_habit {l : Launch} {G : va_G} {ct : Nat → ClassId} {aM : Nat → Nat} {SM : zMS} {a1 : Int32} {a2 : Int32} {r0 : Int32} {OM : zMS} (hf : f_X12_habit SM a1 a2 = some (r0, OM)) : zC l yX12_habit cX12_habit 4 (some .int) rm_X12_habit G ct [.ref (aM 200), .int a1, .int a2] [wM aM ct SM] [wM aM ct OM] (some (.int r0)) 0 0 := by
  refine z_enter (own := RX12) (lv := [(0, .ref (aM 200)), (1, .int a1), (2, .int a2)]) (by decide) rfl (Nat.le_of_ble_eq_true rfl) rfl ?_
  intro p e s m args below meth c A E hr hnm
  unfold f_X12_habit at hf
  refine z_aload_n (pc := 0) (k0 := 0) E dX12_habit_0 rfl rfl ?_
  refine z_iload_n (pc := 1) (k0 := 1) E dX12_habit_1 rfl rfl ?_
  obtain ⟨r1, h2, hf⟩ := kC_e hf
  refine z_callV0 (pc := 2) (is := [0]) (n := 1) (As := [.int a1]) (st := []) (st' := [.int r1]) (C2 := [wM aM ct SM]) E (c_X12_isThing (l := l) (G := G) (ct := ct) (aM := aM) h2) wv_X12_isThing wd_11_0 ⟨Nat.le_of_ble_eq_true rfl, Nat.le_of_ble_eq_true rfl, Nat.le_of_ble_eq_true rfl, Nat.le_of_ble_eq_true rfl⟩ rfl rfl rfl (by decide) rfl rfl (zrM (j := 0) rfl) rfl (Nat.le_of_ble_eq_true rfl) dX12_habit_2 rfl rfl ?_
  refine z_if_ne (pc := 5) (tgt := 10) E dX12_habit_5 (by decide) (fun c3 => ?_) (fun c3 => ?_)
  · have hf := kB_f hf c3
    refine z_aload_n (pc := 10) (k0 := 0) E dX12_habit_10 rfl rfl ?_
    refine z_iload_n (pc := 11) (k0 := 2) E dX12_habit_11 rfl rfl ?_
    refine z_iconst (pc := 12) (v := 0) E dX12_habit_12 (by decide) ?_
    refine z_sipush (pc := 13) (v := 999) E dX12_habit_13 (by decide) ?_
    obtain ⟨r4, h5, hf⟩ := kC_e hf
    refine z_callV0 (pc := 16) (is := [0]) (n := 3) (As := [.int a2, .int 0, .int 999]) (st := []) (st' := [.int r4]) (C2 := [wM aM ct SM]) E (c_X12_in (l := l) (G := G) (ct := ct) (aM := aM) h5) wv_X12_in wd_7_11 ⟨Nat.le_of_ble_eq_true rfl, Nat.le_of_ble_eq_true rfl, Nat.le_of_ble_eq_true rfl, Nat.le_of_ble_eq_true rfl⟩ rfl rfl rfl (by decide) rfl rfl (zrM (j := 0) rfl) rfl (Nat.le_of_ble_eq_true rfl) dX12_habit_16 rfl rfl ?_
    refine z_if_ne (pc := 19) (tgt := 25) E dX12_habit_19 (by decide) (fun c6 => ?_) (fun c6 => ?_)
    · have hf := kB_f hf c6
      refine z_aload_n (pc := 25) (k0 := 0) E dX12_habit_25 rfl rfl ?_
      refine gM_10 (pc := 26) (i := 0) E rfl wd_4_5 dX12_habit_26 ?_
      refine z_iload_n (pc := 29) (k0 := 1) E dX12_habit_29 rfl rfl ?_
      obtain ⟨c7, hf⟩ := kO_e hf
      refine lM_10 (pc := 30) (i := 0) E rfl c7 dX12_habit_30 ?_
      refine z_istore_n (pc := 31) (lv' := [(3, .int (SM.2.1 10 (Int32.toNatClampNeg a1))), (0, .ref (aM 200)), (1, .int a1), (2, .int a2)]) E dX12_habit_31 rfl (by decide) rfl ?_
      refine z_aload_n (pc := 32) (k0 := 1) E dX12_habit_32 rfl rfl ?_
      refine gM_10 (pc := 33) (i := 0) E rfl wd_4_5 dX12_habit_33 ?_
      refine z_iload_n (pc := 36) (k0 := 2) E dX12_habit_36 rfl rfl ?_
      refine z_iload_n (pc := 37) (k0 := 3) E dX12_habit_37 rfl rfl ?_
      obtain ⟨c8, hf⟩ := kO_e hf
      obtain ⟨SM_9, e_SM_9, hf⟩ := kL_e hf
      refine sM_10 (pc := 38) (i := 0) (S1 := SM_9) E rfl c8 e_SM_9 dX12_habit_38 ?_
      show zJ p l e rm_X12_habit s m args below meth c (zQ G ct (some (.int r0)) [wM aM ct OM] A below args s 0 0) A G 4 0 0 [wM aM ct SM_9] [(3, .int (SM.2.1 10 (Int32.toNatClampNeg a1))), (0, .ref (aM 200)), (1, .int a1), (2, .int a2)] 39 []
      refine z_iload_n (pc := 39) (k0 := 0) E dX12_habit_39 rfl rfl ?_
      cases hf
      exact z_iret E hr dX12_habit_40
    · have hf := kB_t hf c6
      refine z_bipush (pc := 22) (v := (-2)) E dX12_habit_22 (by decide) ?_
      cases hf
      exact z_iret E hr dX12_habit_24
  · have hf := kB_t hf c3
    refine z_iconst (pc := 8) (v := (-1)) E dX12_habit_8 (by decide) ?_
    cases hf
    exact z_iret E hr dX12_habit_9
noncomputable def f_X12_row (SM : zMS) (a1 : Int32) (a2 : Int32) (a3 : Int32) : Option (Int32 × zMS) := kC (f_X12_isParent SM a1) (fun r1 => kB (r1 = 0) (some ((-1), SM)) (kC (f_X12_in SM a2 0 3) (fun r4 => kB (r4 = 0) (some ((-1), SM)) (kC (f_X12_in SM a3 0 1) (fun r7 => kB (r7 = 0) (some ((-2), SM)) (kO (¬ (a1 < 0 ∨ 4 ≤ Int32.toNatClampNeg a1)) (kB ((SM.2.1 11 (Int32.toNatClampNeg a1)) = 6) (kL ((4 : Int32) * a1) (fun v12 => kL (v12 + a2) (fun v13 => kO (¬ (v13 < 0 ∨ 16 ≤ Int32.toNatClampNeg v13)) (kL ((4 : Int32) * a1) (fun v15 => kL (v15 + a2) (fun v16 => kO (¬ (v16 < 0 ∨ 16 ≤ Int32.toNatClampNeg v16)) (kL (mSA SM 13 (upd (SM.2.1 13) (Int32.toNatClampNeg v16) a3)) (fun SM_18 => some ((SM.2.1 13 (Int32.toNatClampNeg v13)), SM_18))))))))) (some ((-3), SM)))))))))
theorem wv_X12_row : zWV RX12 yX12_row cX12_row 5 (some .int) 3 := ⟨wd_17_18, wd_17_19, wd_1_5, wd_17_20, by decide +kernel⟩
def rm_X12_row : Room := { frames := 2, cells := 0, slots := 0, locals := 44 }
set_option maxHeartbeats 4000000 in
set_option maxRecDepth 100000 in
theorem c_X12_row {l : Launch} {G : va_G} {ct : Nat → ClassId} {aM : Nat → Nat} {SM : zMS} {a1 : Int32} {a2 : Int32} {a3 : Int32} {r0 : Int32} {OM : zMS} (hf : f_X12_row SM a1 a2 a3 = some (r0, OM)) : zC l yX12_row cX12_row 5 (some .int) rm_X12_row G ct [.ref (aM 200), .int a1, .int a2, .int a3] [wM aM ct SM] [wM aM ct OM] (some (.int r0)) 0 0 := by
  refine z_enter (own := RX12) (lv := [(0, .ref (aM 200)), (1, .int a1), (2, .int a2), (3, .int a3)]) (by decide) rfl (Nat.le_of_ble_eq_true rfl) rfl ?_
  intro p e s m args below meth c A E hr hnm
  unfold f_X12_row at hf
  refine z_aload_n (pc := 0) (k0 := 0) E dX12_row_0 rfl rfl ?_
  refine z_iload_n (pc := 1) (k0 := 1) E dX12_row_1 rfl rfl ?_
  obtain ⟨r1, h2, hf⟩ := kC_e hf
  refine z_callV0 (pc := 2) (is := [0]) (n := 1) (As := [.int a1]) (st := []) (st' := [.int r1]) (C2 := [wM aM ct SM]) E (c_X12_isParent (l := l) (G := G) (ct := ct) (aM := aM) h2) wv_X12_isParent wd_15_13 ⟨Nat.le_of_ble_eq_true rfl, Nat.le_of_ble_eq_true rfl, Nat.le_of_ble_eq_true rfl, Nat.le_of_ble_eq_true rfl⟩ rfl rfl rfl (by decide) rfl rfl (zrM (j := 0) rfl) rfl (Nat.le_of_ble_eq_true rfl) dX12_row_2 rfl rfl ?_
  refine z_if_eq (pc := 5) (tgt := 18) E dX12_row_5 (by decide) (fun c3 => ?_) (fun c3 => ?_)
  · have hf := kB_t hf c3
    refine z_iconst (pc := 18) (v := (-1)) E dX12_row_18 (by decide) ?_
    cases hf
    exact z_iret E hr dX12_row_19
  · have hf := kB_f hf c3
    refine z_aload_n (pc := 8) (k0 := 0) E dX12_row_8 rfl rfl ?_
    refine z_iload_n (pc := 9) (k0 := 2) E dX12_row_9 rfl rfl ?_
    refine z_iconst (pc := 10) (v := 0) E dX12_row_10 (by decide) ?_
    refine z_iconst (pc := 11) (v := 3) E dX12_row_11 (by decide) ?_
    obtain ⟨r4, h5, hf⟩ := kC_e hf
    refine z_callV0 (pc := 12) (is := [0]) (n := 3) (As := [.int a2, .int 0, .int 3]) (st := []) (st' := [.int r4]) (C2 := [wM aM ct SM]) E (c_X12_in (l := l) (G := G) (ct := ct) (aM := aM) h5) wv_X12_in wd_7_11 ⟨Nat.le_of_ble_eq_true rfl, Nat.le_of_ble_eq_true rfl, Nat.le_of_ble_eq_true rfl, Nat.le_of_ble_eq_true rfl⟩ rfl rfl rfl (by decide) rfl rfl (zrM (j := 0) rfl) rfl (Nat.le_of_ble_eq_true rfl) dX12_row_12 rfl rfl ?_
    refine z_if_ne (pc := 15) (tgt := 20) E dX12_row_15 (by decide) (fun c6 => ?_) (fun c6 => ?_)
    · have hf := kB_f hf c6
      refine z_aload_n (pc := 20) (k0 := 0) E dX12_row_20 rfl rfl ?_
      refine z_iload_n (pc := 21) (k0 := 3) E dX12_row_21 rfl rfl ?_
      refine z_iconst (pc := 22) (v := 0) E dX12_row_22 (by decide) ?_
      refine z_iconst (pc := 23) (v := 1) E dX12_row_23 (by decide) ?_
      obtain ⟨r7, h8, hf⟩ := kC_e hf
      refine z_callV0 (pc := 24) (is := [0]) (n := 3) (As := [.int a3, .int 0, .int 1]) (st := []) (st' := [.int r7]) (C2 := [wM aM ct SM]) E (c_X12_in (l := l) (G := G) (ct := ct) (aM := aM) h8) wv_X12_in wd_7_11 ⟨Nat.le_of_ble_eq_true rfl, Nat.le_of_ble_eq_true rfl, Nat.le_of_ble_eq_true rfl, Nat.le_of_ble_eq_true rfl⟩ rfl rfl rfl (by decide) rfl rfl (zrM (j := 0) rfl) rfl (Nat.le_of_ble_eq_true rfl) dX12_row_24 rfl rfl ?_
      refine z_if_ne (pc := 27) (tgt := 33) E dX12_row_27 (by decide) (fun c9 => ?_) (fun c9 => ?_)
      · have hf := kB_f hf c9
        refine z_aload_n (pc := 33) (k0 := 0) E dX12_row_33 rfl rfl ?_
        refine gM_11 (pc := 34) (i := 0) E rfl wd_4_6 dX12_row_34 ?_
        refine z_iload_n (pc := 37) (k0 := 1) E dX12_row_37 rfl rfl ?_
        obtain ⟨c10, hf⟩ := kO_e hf
        refine lM_11 (pc := 38) (i := 0) E rfl c10 dX12_row_38 ?_
        refine z_bipush (pc := 39) (v := 6) E dX12_row_39 (by decide) ?_
        refine z_icmp_eq (pc := 41) (tgt := 47) E dX12_row_41 (by decide) (fun c11 => ?_) (fun c11 => ?_)
        · have hf := kB_t hf c11
          refine z_aload_n (pc := 47) (k0 := 0) E dX12_row_47 rfl rfl ?_
          refine gM_13 (pc := 48) (i := 0) E rfl wd_4_8 dX12_row_48 ?_
          refine z_iconst (pc := 51) (v := 4) E dX12_row_51 (by decide) ?_
          refine z_iload_n (pc := 52) (k0 := 1) E dX12_row_52 rfl rfl ?_
          obtain ⟨v12, e_v12, hf⟩ := kL_e hf
          refine z_imul (pc := 53) (v := v12) E dX12_row_53 e_v12 ?_
          refine z_iload_n (pc := 54) (k0 := 2) E dX12_row_54 rfl rfl ?_
          obtain ⟨v13, e_v13, hf⟩ := kL_e hf
          refine z_iadd (pc := 55) (v := v13) E dX12_row_55 e_v13 ?_
          obtain ⟨c14, hf⟩ := kO_e hf
          refine lM_13 (pc := 56) (i := 0) E rfl c14 dX12_row_56 ?_
          refine z_istore (pc := 57) (lv' := [(4, .int (SM.2.1 13 (Int32.toNatClampNeg v13))), (0, .ref (aM 200)), (1, .int a1), (2, .int a2), (3, .int a3)]) E dX12_row_57 (by decide) rfl ?_
          refine z_aload_n (pc := 59) (k0 := 1) E dX12_row_59 rfl rfl ?_
          refine gM_13 (pc := 60) (i := 0) E rfl wd_4_8 dX12_row_60 ?_
          refine z_iconst (pc := 63) (v := 4) E dX12_row_63 (by decide) ?_
          refine z_iload_n (pc := 64) (k0 := 2) E dX12_row_64 rfl rfl ?_
          obtain ⟨v15, e_v15, hf⟩ := kL_e hf
          refine z_imul (pc := 65) (v := v15) E dX12_row_65 e_v15 ?_
          refine z_iload_n (pc := 66) (k0 := 3) E dX12_row_66 rfl rfl ?_
          obtain ⟨v16, e_v16, hf⟩ := kL_e hf
          refine z_iadd (pc := 67) (v := v16) E dX12_row_67 e_v16 ?_
          refine z_iload_n (pc := 68) (k0 := 4) E dX12_row_68 rfl rfl ?_
          obtain ⟨c17, hf⟩ := kO_e hf
          obtain ⟨SM_18, e_SM_18, hf⟩ := kL_e hf
          refine sM_13 (pc := 69) (i := 0) (S1 := SM_18) E rfl c17 e_SM_18 dX12_row_69 ?_
          show zJ p l e rm_X12_row s m args below meth c (zQ G ct (some (.int r0)) [wM aM ct OM] A below args s 0 0) A G 5 0 0 [wM aM ct SM_18] [(4, .int (SM.2.1 13 (Int32.toNatClampNeg v13))), (0, .ref (aM 200)), (1, .int a1), (2, .int a2), (3, .int a3)] 70 []
          refine z_iload (pc := 70) (k0 := 0) E dX12_row_70 rfl ?_
          cases hf
          exact z_iret E hr dX12_row_72
        · have hf := kB_f hf c11
          refine z_bipush (pc := 44) (v := (-3)) E dX12_row_44 (by decide) ?_
          cases hf
          exact z_iret E hr dX12_row_46
      · have hf := kB_t hf c9
        refine z_bipush (pc := 30) (v := (-2)) E dX12_row_30 (by decide) ?_
        cases hf
        exact z_iret E hr dX12_row_32
    · have hf := kB_t hf c6
      refine z_iconst (pc := 18) (v := (-1)) E dX12_row_18 (by decide) ?_
      cases hf
      exact z_iret E hr dX12_row_19
noncomputable def f_X12_feed (SM : zMS) (a1 : Int32) : Option (Int32 × zMS) := kC (f_X12_in SM a1 0 127) (fun r1 => kB (r1 = 0) (some ((-2), SM)) (kB ((SM.1 16) = 100) (some ((-4), SM)) (kO (¬ ((SM.1 16) < 0 ∨ 100 ≤ Int32.toNatClampNeg (SM.1 16))) (kL (mSA SM 19 (upd (SM.2.1 19) (Int32.toNatClampNeg (SM.1 16)) a1)) (fun SM_6 => kL ((SM_6.1 16) + 1) (fun v7 => kL (mSI SM_6 16 v7) (fun SM_8 => some ((SM_8.1 16), SM_8))))))))
theorem wv_X12_feed : zWV RX12 yX12_feed cX12_feed 2 (some .int) 1 := ⟨wd_18_4, wd_18_5, wd_1_5, wd_18_6, by decide +kernel⟩
def rm_X12_feed : Room := { frames := 1, cells := 0, slots := 0, locals := 23 }
set_option maxHeartbeats 4000000 in
set_option maxRecDepth 100000 in
theorem c_X12_feed {l : Launch} {G : va_G} {ct : Nat → ClassId} {aM : Nat → Nat} {SM : zMS} {a1 : Int32} {r0 : Int32} {OM : zMS} (hf : f_X12_feed SM a1 = some (r0, OM)) : zC l yX12_feed cX12_feed 2 (some .int) rm_X12_feed G ct [.ref (aM 200), .int a1] [wM aM ct SM] [wM aM ct OM] (some (.int r0)) 0 0 := by
  refine z_enter (own := RX12) (lv := [(0, .ref (aM 200)), (1, .int a1)]) (by decide) rfl (Nat.le_of_ble_eq_true rfl) rfl ?_
  intro p e s m args below meth c A E hr hnm
  unfold f_X12_feed at hf
  refine z_aload_n (pc := 0) (k0 := 0) E dX12_feed_0 rfl rfl ?_
  refine z_iload_n (pc := 1) (k0 := 1) E dX12_feed_1 rfl rfl ?_
  refine z_iconst (pc := 2) (v := 0) E dX12_feed_2 (by decide) ?_
  refine z_bipush (pc := 3) (v := 127) E dX12_feed_3 (by decide) ?_
  obtain ⟨r1, h2, hf⟩ := kC_e hf
  refine z_callV0 (pc := 5) (is := [0]) (n := 3) (As := [.int a1, .int 0, .int 127]) (st := []) (st' := [.int r1]) (C2 := [wM aM ct SM]) E (c_X12_in (l := l) (G := G) (ct := ct) (aM := aM) h2) wv_X12_in wd_7_11 ⟨Nat.le_of_ble_eq_true rfl, Nat.le_of_ble_eq_true rfl, Nat.le_of_ble_eq_true rfl, Nat.le_of_ble_eq_true rfl⟩ rfl rfl rfl (by decide) rfl rfl (zrM (j := 0) rfl) rfl (Nat.le_of_ble_eq_true rfl) dX12_feed_5 rfl rfl ?_
  refine z_if_ne (pc := 8) (tgt := 14) E dX12_feed_8 (by decide) (fun c3 => ?_) (fun c3 => ?_)
  · have hf := kB_f hf c3
    refine z_aload_n (pc := 14) (k0 := 0) E dX12_feed_14 rfl rfl ?_
    refine gM_16 (pc := 15) (i := 0) E rfl wd_4_11 dX12_feed_15 ?_
    refine z_bipush (pc := 18) (v := 100) E dX12_feed_18 (by decide) ?_
    refine z_icmp_ne (pc := 20) (tgt := 26) E dX12_feed_20 (by decide) (fun c4 => ?_) (fun c4 => ?_)
    · have hf := kB_f hf c4
      refine z_aload_n (pc := 26) (k0 := 0) E dX12_feed_26 rfl rfl ?_
      refine gM_19 (pc := 27) (i := 0) E rfl wd_4_14 dX12_feed_27 ?_
      refine z_aload_n (pc := 30) (k0 := 0) E dX12_feed_30 rfl rfl ?_
      refine gM_16 (pc := 31) (i := 0) E rfl wd_4_11 dX12_feed_31 ?_
      refine z_iload_n (pc := 34) (k0 := 1) E dX12_feed_34 rfl rfl ?_
      obtain ⟨c5, hf⟩ := kO_e hf
      obtain ⟨SM_6, e_SM_6, hf⟩ := kL_e hf
      refine sM_19 (pc := 35) (i := 0) (S1 := SM_6) E rfl c5 e_SM_6 dX12_feed_35 ?_
      show zJ p l e rm_X12_feed s m args below meth c (zQ G ct (some (.int r0)) [wM aM ct OM] A below args s 0 0) A G 2 0 0 [wM aM ct SM_6] [(0, .ref (aM 200)), (1, .int a1)] 36 []
      refine z_aload_n (pc := 36) (k0 := 0) E dX12_feed_36 rfl rfl ?_
      refine z_dup (pc := 37) E dX12_feed_37 rfl ?_
      refine gM_16 (pc := 38) (i := 0) E rfl wd_4_11 dX12_feed_38 ?_
      refine z_iconst (pc := 41) (v := 1) E dX12_feed_41 (by decide) ?_
      obtain ⟨v7, e_v7, hf⟩ := kL_e hf
      refine z_iadd (pc := 42) (v := v7) E dX12_feed_42 e_v7 ?_
      obtain ⟨SM_8, e_SM_8, hf⟩ := kL_e hf
      refine pM_16 (pc := 43) (i := 0) (S1 := SM_8) E rfl e_SM_8 wd_4_11 dX12_feed_43 ?_
      show zJ p l e rm_X12_feed s m args below meth c (zQ G ct (some (.int r0)) [wM aM ct OM] A below args s 0 0) A G 2 0 0 [wM aM ct SM_8] [(0, .ref (aM 200)), (1, .int a1)] 46 []
      refine z_aload_n (pc := 46) (k0 := 0) E dX12_feed_46 rfl rfl ?_
      refine gM_16 (pc := 47) (i := 0) E rfl wd_4_11 dX12_feed_47 ?_
      cases hf
      exact z_iret E hr dX12_feed_50
    · have hf := kB_t hf c4
      refine z_bipush (pc := 23) (v := (-4)) E dX12_feed_23 (by decide) ?_
      cases hf
      exact z_iret E hr dX12_feed_25
  · have hf := kB_t hf c3
    refine z_bipush (pc := 11) (v := (-2)) E dX12_feed_11 (by decide) ?_
    cases hf
    exact z_iret E hr dX12_feed_13
noncomputable def f_X12_next (SM : zMS) : Option Int32 := kB ((SM.1 16) ≤ (SM.1 17)) (some ((-1))) (kO (¬ ((SM.1 17) < 0 ∨ 100 ≤ Int32.toNatClampNeg (SM.1 17))) (some ((SM.2.1 19 (Int32.toNatClampNeg (SM.1 17))))))
theorem wv_X12_next : zWV RX12 yX12_next cX12_next 1 (some .int) 0 := ⟨wd_26_18, wd_26_19, wd_1_5, wd_26_20, by decide +kernel⟩
def rm_X12_next : Room := { frames := 0, cells := 0, slots := 0, locals := 0 }
set_option maxHeartbeats 4000000 in
set_option maxRecDepth 100000 in
theorem c_X12_next {l : Launch} {G : va_G} {ct : Nat → ClassId} {aM : Nat → Nat} {SM : zMS} {r0 : Int32} (hf : f_X12_next SM = some r0) : zC l yX12_next cX12_next 1 (some .int) rm_X12_next G ct [.ref (aM 200)] [wM aM ct SM] [wM aM ct SM] (some (.int r0)) 0 0 := by
  refine z_enter (own := RX12) (lv := [(0, .ref (aM 200))]) (by decide) rfl (Nat.le_of_ble_eq_true rfl) rfl ?_
  intro p e s m args below meth c A E hr hnm
  unfold f_X12_next at hf
  refine z_aload_n (pc := 0) (k0 := 0) E dX12_next_0 rfl rfl ?_
  refine gM_17 (pc := 1) (i := 0) E rfl wd_4_12 dX12_next_1 ?_
  refine z_aload_n (pc := 4) (k0 := 0) E dX12_next_4 rfl rfl ?_
  refine gM_16 (pc := 5) (i := 0) E rfl wd_4_11 dX12_next_5 ?_
  refine z_icmp_ge (pc := 8) (tgt := 23) E dX12_next_8 (by decide) (fun c1 => ?_) (fun c1 => ?_)
  · have hf := kB_t hf c1
    refine z_iconst (pc := 23) (v := (-1)) E dX12_next_23 (by decide) ?_
    cases hf
    exact z_iret E hr dX12_next_24
  · have hf := kB_f hf c1
    refine z_aload_n (pc := 11) (k0 := 0) E dX12_next_11 rfl rfl ?_
    refine gM_19 (pc := 12) (i := 0) E rfl wd_4_14 dX12_next_12 ?_
    refine z_aload_n (pc := 15) (k0 := 0) E dX12_next_15 rfl rfl ?_
    refine gM_17 (pc := 16) (i := 0) E rfl wd_4_12 dX12_next_16 ?_
    obtain ⟨c2, hf⟩ := kO_e hf
    refine lM_19 (pc := 19) (i := 0) E rfl c2 dX12_next_19 ?_
    refine z_goto (pc := 20) (tgt := 24) E dX12_next_20 (by decide) ?_
    cases hf
    exact z_iret E hr dX12_next_24
noncomputable def f_X12_takes (SM : zMS) (a1 : Int32) : Option (Int32 × zMS) := kC (f_X12_next SM) (fun r1 => kB (r1 = a1) (kL ((SM.1 17) + 1) (fun v4 => kL (mSI SM 17 v4) (fun SM_5 => some (1, SM_5)))) (some (0, SM)))
theorem wv_X12_takes : zWV RX12 yX12_takes cX12_takes 2 (some .boolean) 1 := ⟨wd_27_2, wd_27_3, wd_1_5, wd_27_4, by decide +kernel⟩
def rm_X12_takes : Room := { frames := 1, cells := 0, slots := 0, locals := 20 }
set_option maxHeartbeats 4000000 in
set_option maxRecDepth 100000 in
theorem c_X12_takes {l : Launch} {G : va_G} {ct : Nat → ClassId} {aM : Nat → Nat} {SM : zMS} {a1 : Int32} {r0 : Int32} {OM : zMS} (hf : f_X12_takes SM a1 = some (r0, OM)) : zC l yX12_takes cX12_takes 2 (some .boolean) rm_X12_takes G ct [.ref (aM 200), .int a1] [wM aM ct SM] [wM aM ct OM] (some (.int r0)) 0 0 := by
  refine z_enter (own := RX12) (lv := [(0, .ref (aM 200)), (1, .int a1)]) (by decide) rfl (Nat.le_of_ble_eq_true rfl) rfl ?_
  intro p e s m args below meth c A E hr hnm
  unfold f_X12_takes at hf
  refine z_aload_n (pc := 0) (k0 := 0) E dX12_takes_0 rfl rfl ?_
  obtain ⟨r1, h2, hf⟩ := kC_e hf
  refine z_callV0 (pc := 1) (is := [0]) (n := 0) (As := []) (st := []) (st' := [.int r1]) (C2 := [wM aM ct SM]) E (c_X12_next (l := l) (G := G) (ct := ct) (aM := aM) h2) wv_X12_next wd_26_17 ⟨Nat.le_of_ble_eq_true rfl, Nat.le_of_ble_eq_true rfl, Nat.le_of_ble_eq_true rfl, Nat.le_of_ble_eq_true rfl⟩ rfl rfl rfl (by decide) rfl rfl (zrM (j := 0) rfl) rfl (Nat.le_of_ble_eq_true rfl) dX12_takes_1 rfl rfl ?_
  refine z_iload_n (pc := 4) (k0 := 1) E dX12_takes_4 rfl rfl ?_
  refine z_icmp_eq (pc := 5) (tgt := 10) E dX12_takes_5 (by decide) (fun c3 => ?_) (fun c3 => ?_)
  · have hf := kB_t hf c3
    refine z_aload_n (pc := 10) (k0 := 0) E dX12_takes_10 rfl rfl ?_
    refine z_dup (pc := 11) E dX12_takes_11 rfl ?_
    refine gM_17 (pc := 12) (i := 0) E rfl wd_4_12 dX12_takes_12 ?_
    refine z_iconst (pc := 15) (v := 1) E dX12_takes_15 (by decide) ?_
    obtain ⟨v4, e_v4, hf⟩ := kL_e hf
    refine z_iadd (pc := 16) (v := v4) E dX12_takes_16 e_v4 ?_
    obtain ⟨SM_5, e_SM_5, hf⟩ := kL_e hf
    refine pM_17 (pc := 17) (i := 0) (S1 := SM_5) E rfl e_SM_5 wd_4_12 dX12_takes_17 ?_
    show zJ p l e rm_X12_takes s m args below meth c (zQ G ct (some (.int r0)) [wM aM ct OM] A below args s 0 0) A G 2 0 0 [wM aM ct SM_5] [(0, .ref (aM 200)), (1, .int a1)] 20 []
    refine z_iconst (pc := 20) (v := 1) E dX12_takes_20 (by decide) ?_
    cases hf
    exact z_zret E hr (by decide) dX12_takes_21
  · have hf := kB_f hf c3
    refine z_iconst (pc := 8) (v := 0) E dX12_takes_8 (by decide) ?_
    cases hf
    exact z_zret E hr (by decide) dX12_takes_9
noncomputable def f_X12_takesWord_l2 (N : Nat) : Nat → zMS → Int32 → Int32 → Int32 → Option (Int32 × zMS) := fun n => Nat.rec (motive := fun _ => zMS → Int32 → Int32 → Int32 → Option (Int32 × zMS)) (fun _ _ _ _ => none) (fun _ ih SM x1 x2 x3 => kB (x2 ≤ x3) (kD (f_X12_takes SM 32) (fun r2 SM_3 => kO (r2 = 0 ∨ r2 = 1) (some (r2, SM_3)))) (kL (x1 + x3) (fun v6 => kO (¬ (v6 < 0 ∨ 16 ≤ Int32.toNatClampNeg v6)) (kD (f_X12_takes SM (SM.2.1 30 (Int32.toNatClampNeg v6))) (fun r8 SM_9 => kB (r8 = 0) (some (0, SM_9)) (kL (x3 + 1) (fun v12 => ih SM_9 x1 x2 v12))))))) n
theorem f_X12_takesWord_l2_z (N : Nat) (SM : zMS) (x1 : Int32) (x2 : Int32) (x3 : Int32) : f_X12_takesWord_l2 N 0 SM x1 x2 x3 = none := rfl
theorem f_X12_takesWord_l2_s (N : Nat) (n : Nat) (SM : zMS) (x1 : Int32) (x2 : Int32) (x3 : Int32) : f_X12_takesWord_l2 N (n + 1) SM x1 x2 x3 = kB (x2 ≤ x3) (kD (f_X12_takes SM 32) (fun r2 SM_3 => kO (r2 = 0 ∨ r2 = 1) (some (r2, SM_3)))) (kL (x1 + x3) (fun v6 => kO (¬ (v6 < 0 ∨ 16 ≤ Int32.toNatClampNeg v6)) (kD (f_X12_takes SM (SM.2.1 30 (Int32.toNatClampNeg v6))) (fun r8 SM_9 => kB (r8 = 0) (some (0, SM_9)) (kL (x3 + 1) (fun v12 => (f_X12_takesWord_l2 N n) SM_9 x1 x2 v12)))))) := rfl
noncomputable def f_X12_takesWord (N : Nat) (SM : zMS) (a1 : Int32) (a2 : Int32) : Option (Int32 × zMS) := f_X12_takesWord_l2 N N SM a1 a2 0
theorem wv_X12_takesWord : zWV RX12 yX12_takesWord cX12_takesWord 4 (some .boolean) 2 := ⟨wd_26_22, wd_26_23, wd_1_5, wd_27_0, by decide +kernel⟩
def rm_X12_takesWord : Room := { frames := 2, cells := 0, slots := 0, locals := 41 }
set_option maxHeartbeats 4000000 in
set_option maxRecDepth 100000 in
theorem c_X12_takesWord {l : Launch} {G : va_G} {ct : Nat → ClassId} {aM : Nat → Nat} {N : Nat} {SM : zMS} {a1 : Int32} {a2 : Int32} {r0 : Int32} {OM : zMS} (hf : f_X12_takesWord N SM a1 a2 = some (r0, OM)) : zC l yX12_takesWord cX12_takesWord 4 (some .boolean) rm_X12_takesWord G ct [.ref (aM 200), .int a1, .int a2] [wM aM ct SM] [wM aM ct OM] (some (.int r0)) 0 0 := by
  refine z_enter (own := RX12) (lv := [(0, .ref (aM 200)), (1, .int a1), (2, .int a2)]) (by decide) rfl (Nat.le_of_ble_eq_true rfl) rfl ?_
  intro p e s m args below meth c A E hr hnm
  have L2 : ∀ (n2 : Nat) (SM : zMS) (x1 : Int32) (x2 : Int32) (x3 : Int32), f_X12_takesWord_l2 N n2 SM x1 x2 x3 = some (r0, OM) → zJ p l e rm_X12_takesWord s m args below meth c (zQ G ct (some (.int r0)) [wM aM ct OM] A below args s 0 0) A G 4 0 0 [wM aM ct SM] [(0, .ref (aM 200)), (1, .int x1), (2, .int x2), (3, .int x3)] 2 [] := by
    intro n2
    induction n2 with
    | zero =>
      intro SM x1 x2 x3 hf
      rw [f_X12_takesWord_l2_z] at hf
      cases hf
    | succ n2 ih2 =>
      intro SM x1 x2 x3 hf
      rw [f_X12_takesWord_l2_s] at hf
      refine z_iload_n (pc := 2) (k0 := 3) E dX12_takesWord_2 rfl rfl ?_
      refine z_iload_n (pc := 3) (k0 := 2) E dX12_takesWord_3 rfl rfl ?_
      refine z_icmp_ge (pc := 4) (tgt := 30) E dX12_takesWord_4 (by decide) (fun c1 => ?_) (fun c1 => ?_)
      · have hf := kB_t hf c1
        refine z_aload_n (pc := 30) (k0 := 0) E dX12_takesWord_30 rfl rfl ?_
        refine z_bipush (pc := 31) (v := 32) E dX12_takesWord_31 (by decide) ?_
        obtain ⟨r2, SM_3, h4, hf⟩ := kD_e hf
        refine z_callV0 (pc := 33) (is := [0]) (n := 1) (As := [.int 32]) (st := []) (st' := [.int r2]) (C2 := [wM aM ct SM_3]) E (c_X12_takes (l := l) (G := G) (ct := ct) (aM := aM) h4) wv_X12_takes wd_27_1 ⟨Nat.le_of_ble_eq_true rfl, Nat.le_of_ble_eq_true rfl, Nat.le_of_ble_eq_true rfl, Nat.le_of_ble_eq_true rfl⟩ rfl rfl rfl (by decide) rfl rfl (zrM (j := 0) rfl) rfl (Nat.le_of_ble_eq_true rfl) dX12_takesWord_33 rfl rfl ?_
        obtain ⟨c5, hf⟩ := kO_e hf
        cases hf
        exact z_zret E hr c5 dX12_takesWord_36
      · have hf := kB_f hf c1
        refine z_aload_n (pc := 7) (k0 := 0) E dX12_takesWord_7 rfl rfl ?_
        refine z_aload_n (pc := 8) (k0 := 0) E dX12_takesWord_8 rfl rfl ?_
        refine gM_30 (pc := 9) (i := 0) E rfl wd_5_1 dX12_takesWord_9 ?_
        refine z_iload_n (pc := 12) (k0 := 1) E dX12_takesWord_12 rfl rfl ?_
        refine z_iload_n (pc := 13) (k0 := 3) E dX12_takesWord_13 rfl rfl ?_
        obtain ⟨v6, e_v6, hf⟩ := kL_e hf
        refine z_iadd (pc := 14) (v := v6) E dX12_takesWord_14 e_v6 ?_
        obtain ⟨c7, hf⟩ := kO_e hf
        refine lM_30 (pc := 15) (i := 0) E rfl c7 dX12_takesWord_15 ?_
        obtain ⟨r8, SM_9, h10, hf⟩ := kD_e hf
        refine z_callV0 (pc := 16) (is := [0]) (n := 1) (As := [.int (SM.2.1 30 (Int32.toNatClampNeg v6))]) (st := []) (st' := [.int r8]) (C2 := [wM aM ct SM_9]) E (c_X12_takes (l := l) (G := G) (ct := ct) (aM := aM) h10) wv_X12_takes wd_27_1 ⟨Nat.le_of_ble_eq_true rfl, Nat.le_of_ble_eq_true rfl, Nat.le_of_ble_eq_true rfl, Nat.le_of_ble_eq_true rfl⟩ rfl rfl rfl (by decide) rfl rfl (zrM (j := 0) rfl) rfl (Nat.le_of_ble_eq_true rfl) dX12_takesWord_16 rfl rfl ?_
        refine z_if_ne (pc := 19) (tgt := 24) E dX12_takesWord_19 (by decide) (fun c11 => ?_) (fun c11 => ?_)
        · have hf := kB_f hf c11
          obtain ⟨v12, e_v12, hf⟩ := kL_e hf
          refine z_iinc (pc := 24) (k0 := 3) (v := v12) (lv' := [(3, .int v12), (0, .ref (aM 200)), (1, .int x1), (2, .int x2)]) E dX12_takesWord_24 rfl e_v12 (by decide) rfl ?_
          refine z_goto (pc := 27) (tgt := 2) E dX12_takesWord_27 (by decide) ?_
          refine z_sub [1, 2, 3, 0] (lv' := [(0, .ref (aM 200)), (1, .int x1), (2, .int x2), (3, .int v12)]) rfl ?_
          exact ih2 SM_9 x1 x2 v12 hf
        · have hf := kB_t hf c11
          refine z_iconst (pc := 22) (v := 0) E dX12_takesWord_22 (by decide) ?_
          cases hf
          exact z_zret E hr (by decide) dX12_takesWord_23
  unfold f_X12_takesWord at hf
  refine z_iconst (pc := 0) (v := 0) E dX12_takesWord_0 (by decide) ?_
  refine z_istore_n (pc := 1) (lv' := [(3, .int 0), (0, .ref (aM 200)), (1, .int a1), (2, .int a2)]) E dX12_takesWord_1 rfl (by decide) rfl ?_
  refine z_sub [1, 2, 3, 0] (lv' := [(0, .ref (aM 200)), (1, .int a1), (2, .int a2), (3, .int 0)]) rfl ?_
  exact L2 N SM a1 a2 0 hf
noncomputable def f_X12_isDigit (SM : zMS) : Option Int32 := kC (f_X12_next SM) (fun r1 => kC (f_X12_in SM r1 48 57) (fun r3 => kO (r3 = 0 ∨ r3 = 1) (some (r3))))
theorem wv_X12_isDigit : zWV RX12 yX12_isDigit cX12_isDigit 1 (some .boolean) 0 := ⟨wd_27_10, wd_27_11, wd_1_5, wd_27_12, by decide +kernel⟩
def rm_X12_isDigit : Room := { frames := 1, cells := 0, slots := 0, locals := 23 }
set_option maxHeartbeats 4000000 in
set_option maxRecDepth 100000 in
theorem c_X12_isDigit {l : Launch} {G : va_G} {ct : Nat → ClassId} {aM : Nat → Nat} {SM : zMS} {r0 : Int32} (hf : f_X12_isDigit SM = some r0) : zC l yX12_isDigit cX12_isDigit 1 (some .boolean) rm_X12_isDigit G ct [.ref (aM 200)] [wM aM ct SM] [wM aM ct SM] (some (.int r0)) 0 0 := by
  refine z_enter (own := RX12) (lv := [(0, .ref (aM 200))]) (by decide) rfl (Nat.le_of_ble_eq_true rfl) rfl ?_
  intro p e s m args below meth c A E hr hnm
  unfold f_X12_isDigit at hf
  refine z_aload_n (pc := 0) (k0 := 0) E dX12_isDigit_0 rfl rfl ?_
  refine z_aload_n (pc := 1) (k0 := 0) E dX12_isDigit_1 rfl rfl ?_
  obtain ⟨r1, h2, hf⟩ := kC_e hf
  refine z_callV0 (pc := 2) (is := [0]) (n := 0) (As := []) (st := [.ref (aM 200)]) (st' := [.int r1, .ref (aM 200)]) (C2 := [wM aM ct SM]) E (c_X12_next (l := l) (G := G) (ct := ct) (aM := aM) h2) wv_X12_next wd_26_17 ⟨Nat.le_of_ble_eq_true rfl, Nat.le_of_ble_eq_true rfl, Nat.le_of_ble_eq_true rfl, Nat.le_of_ble_eq_true rfl⟩ rfl rfl rfl (by decide) rfl rfl (zrM (j := 0) rfl) rfl (Nat.le_of_ble_eq_true rfl) dX12_isDigit_2 rfl rfl ?_
  refine z_bipush (pc := 5) (v := 48) E dX12_isDigit_5 (by decide) ?_
  refine z_bipush (pc := 7) (v := 57) E dX12_isDigit_7 (by decide) ?_
  obtain ⟨r3, h4, hf⟩ := kC_e hf
  refine z_callV0 (pc := 9) (is := [0]) (n := 3) (As := [.int r1, .int 48, .int 57]) (st := []) (st' := [.int r3]) (C2 := [wM aM ct SM]) E (c_X12_in (l := l) (G := G) (ct := ct) (aM := aM) h4) wv_X12_in wd_7_11 ⟨Nat.le_of_ble_eq_true rfl, Nat.le_of_ble_eq_true rfl, Nat.le_of_ble_eq_true rfl, Nat.le_of_ble_eq_true rfl⟩ rfl rfl rfl (by decide) rfl rfl (zrM (j := 0) rfl) rfl (Nat.le_of_ble_eq_true rfl) dX12_isDigit_9 rfl rfl ?_
  obtain ⟨c5, hf⟩ := kO_e hf
  cases hf
  exact z_zret E hr c5 dX12_isDigit_12
noncomputable def f_X12_takesNumber_l16 (N : Nat) : Nat → zMS → Int32 → Option (Int32 × zMS) := fun n => Nat.rec (motive := fun _ => zMS → Int32 → Option (Int32 × zMS)) (fun _ _ => none) (fun _ ih SM x1 => kB (2 ≤ x1) (some (1, SM)) (kC (f_X12_isDigit SM) (fun r6 => kB (r6 = 0) (some (1, SM)) (kL ((10 : Int32) * (SM.1 18)) (fun v9 => kC (f_X12_next SM) (fun r10 => kL (v9 + r10) (fun v12 => kL (v12 - 48) (fun v13 => kL (mSI SM 18 v13) (fun SM_14 => kL ((SM_14.1 17) + 1) (fun v15 => kL (mSI SM_14 17 v15) (fun SM_16 => kL (x1 + 1) (fun v17 => ih SM_16 v17)))))))))))) n
theorem f_X12_takesNumber_l16_z (N : Nat) (SM : zMS) (x1 : Int32) : f_X12_takesNumber_l16 N 0 SM x1 = none := rfl
theorem f_X12_takesNumber_l16_s (N : Nat) (n : Nat) (SM : zMS) (x1 : Int32) : f_X12_takesNumber_l16 N (n + 1) SM x1 = kB (2 ≤ x1) (some (1, SM)) (kC (f_X12_isDigit SM) (fun r6 => kB (r6 = 0) (some (1, SM)) (kL ((10 : Int32) * (SM.1 18)) (fun v9 => kC (f_X12_next SM) (fun r10 => kL (v9 + r10) (fun v12 => kL (v12 - 48) (fun v13 => kL (mSI SM 18 v13) (fun SM_14 => kL ((SM_14.1 17) + 1) (fun v15 => kL (mSI SM_14 17 v15) (fun SM_16 => kL (x1 + 1) (fun v17 => (f_X12_takesNumber_l16 N n) SM_16 v17))))))))))) := rfl
noncomputable def f_X12_takesNumber (N : Nat) (SM : zMS) : Option (Int32 × zMS) := kC (f_X12_isDigit SM) (fun r1 => kB (r1 = 0) (some (0, SM)) (kL (mSI SM 18 0) (fun SM_4 => f_X12_takesNumber_l16 N N SM_4 0)))
theorem wv_X12_takesNumber : zWV RX12 yX12_takesNumber cX12_takesNumber 2 (some .boolean) 0 := ⟨wd_27_6, wd_27_7, wd_1_5, wd_27_8, by decide +kernel⟩
def rm_X12_takesNumber : Room := { frames := 2, cells := 0, slots := 0, locals := 43 }
set_option maxHeartbeats 4000000 in
set_option maxRecDepth 100000 in
theorem c_X12_takesNumber {l : Launch} {G : va_G} {ct : Nat → ClassId} {aM : Nat → Nat} {N : Nat} {SM : zMS} {r0 : Int32} {OM : zMS} (hf : f_X12_takesNumber N SM = some (r0, OM)) : zC l yX12_takesNumber cX12_takesNumber 2 (some .boolean) rm_X12_takesNumber G ct [.ref (aM 200)] [wM aM ct SM] [wM aM ct OM] (some (.int r0)) 0 0 := by
  refine z_enter (own := RX12) (lv := [(0, .ref (aM 200))]) (by decide) rfl (Nat.le_of_ble_eq_true rfl) rfl ?_
  intro p e s m args below meth c A E hr hnm
  have L16 : ∀ (n16 : Nat) (SM : zMS) (x1 : Int32), f_X12_takesNumber_l16 N n16 SM x1 = some (r0, OM) → zJ p l e rm_X12_takesNumber s m args below meth c (zQ G ct (some (.int r0)) [wM aM ct OM] A below args s 0 0) A G 2 0 0 [wM aM ct SM] [(0, .ref (aM 200)), (1, .int x1)] 16 [] := by
    intro n16
    induction n16 with
    | zero =>
      intro SM x1 hf
      rw [f_X12_takesNumber_l16_z] at hf
      cases hf
    | succ n16 ih16 =>
      intro SM x1 hf
      rw [f_X12_takesNumber_l16_s] at hf
      refine z_iload_n (pc := 16) (k0 := 1) E dX12_takesNumber_16 rfl rfl ?_
      refine z_iconst (pc := 17) (v := 2) E dX12_takesNumber_17 (by decide) ?_
      refine z_icmp_ge (pc := 18) (tgt := 63) E dX12_takesNumber_18 (by decide) (fun c5 => ?_) (fun c5 => ?_)
      · have hf := kB_t hf c5
        refine z_iconst (pc := 63) (v := 1) E dX12_takesNumber_63 (by decide) ?_
        cases hf
        exact z_zret E hr (by decide) dX12_takesNumber_64
      · have hf := kB_f hf c5
        refine z_aload_n (pc := 21) (k0 := 0) E dX12_takesNumber_21 rfl rfl ?_
        obtain ⟨r6, h7, hf⟩ := kC_e hf
        refine z_callV0 (pc := 22) (is := [0]) (n := 0) (As := []) (st := []) (st' := [.int r6]) (C2 := [wM aM ct SM]) E (c_X12_isDigit (l := l) (G := G) (ct := ct) (aM := aM) h7) wv_X12_isDigit wd_27_9 ⟨Nat.le_of_ble_eq_true rfl, Nat.le_of_ble_eq_true rfl, Nat.le_of_ble_eq_true rfl, Nat.le_of_ble_eq_true rfl⟩ rfl rfl rfl (by decide) rfl rfl (zrM (j := 0) rfl) rfl (Nat.le_of_ble_eq_true rfl) dX12_takesNumber_22 rfl rfl ?_
        refine z_if_eq (pc := 25) (tgt := 63) E dX12_takesNumber_25 (by decide) (fun c8 => ?_) (fun c8 => ?_)
        · have hf := kB_t hf c8
          refine z_iconst (pc := 63) (v := 1) E dX12_takesNumber_63 (by decide) ?_
          cases hf
          exact z_zret E hr (by decide) dX12_takesNumber_64
        · have hf := kB_f hf c8
          refine z_aload_n (pc := 28) (k0 := 0) E dX12_takesNumber_28 rfl rfl ?_
          refine z_bipush (pc := 29) (v := 10) E dX12_takesNumber_29 (by decide) ?_
          refine z_aload_n (pc := 31) (k0 := 0) E dX12_takesNumber_31 rfl rfl ?_
          refine gM_18 (pc := 32) (i := 0) E rfl wd_4_13 dX12_takesNumber_32 ?_
          obtain ⟨v9, e_v9, hf⟩ := kL_e hf
          refine z_imul (pc := 35) (v := v9) E dX12_takesNumber_35 e_v9 ?_
          refine z_aload_n (pc := 36) (k0 := 0) E dX12_takesNumber_36 rfl rfl ?_
          obtain ⟨r10, h11, hf⟩ := kC_e hf
          refine z_callV0 (pc := 37) (is := [0]) (n := 0) (As := []) (st := [.int v9, .ref (aM 200)]) (st' := [.int r10, .int v9, .ref (aM 200)]) (C2 := [wM aM ct SM]) E (c_X12_next (l := l) (G := G) (ct := ct) (aM := aM) h11) wv_X12_next wd_26_17 ⟨Nat.le_of_ble_eq_true rfl, Nat.le_of_ble_eq_true rfl, Nat.le_of_ble_eq_true rfl, Nat.le_of_ble_eq_true rfl⟩ rfl rfl rfl (by decide) rfl rfl (zrM (j := 0) rfl) rfl (Nat.le_of_ble_eq_true rfl) dX12_takesNumber_37 rfl rfl ?_
          obtain ⟨v12, e_v12, hf⟩ := kL_e hf
          refine z_iadd (pc := 40) (v := v12) E dX12_takesNumber_40 e_v12 ?_
          refine z_bipush (pc := 41) (v := 48) E dX12_takesNumber_41 (by decide) ?_
          obtain ⟨v13, e_v13, hf⟩ := kL_e hf
          refine z_isub (pc := 43) (v := v13) E dX12_takesNumber_43 e_v13 ?_
          obtain ⟨SM_14, e_SM_14, hf⟩ := kL_e hf
          refine pM_18 (pc := 44) (i := 0) (S1 := SM_14) E rfl e_SM_14 wd_4_13 dX12_takesNumber_44 ?_
          show zJ p l e rm_X12_takesNumber s m args below meth c (zQ G ct (some (.int r0)) [wM aM ct OM] A below args s 0 0) A G 2 0 0 [wM aM ct SM_14] [(0, .ref (aM 200)), (1, .int x1)] 47 []
          refine z_aload_n (pc := 47) (k0 := 0) E dX12_takesNumber_47 rfl rfl ?_
          refine z_dup (pc := 48) E dX12_takesNumber_48 rfl ?_
          refine gM_17 (pc := 49) (i := 0) E rfl wd_4_12 dX12_takesNumber_49 ?_
          refine z_iconst (pc := 52) (v := 1) E dX12_takesNumber_52 (by decide) ?_
          obtain ⟨v15, e_v15, hf⟩ := kL_e hf
          refine z_iadd (pc := 53) (v := v15) E dX12_takesNumber_53 e_v15 ?_
          obtain ⟨SM_16, e_SM_16, hf⟩ := kL_e hf
          refine pM_17 (pc := 54) (i := 0) (S1 := SM_16) E rfl e_SM_16 wd_4_12 dX12_takesNumber_54 ?_
          show zJ p l e rm_X12_takesNumber s m args below meth c (zQ G ct (some (.int r0)) [wM aM ct OM] A below args s 0 0) A G 2 0 0 [wM aM ct SM_16] [(0, .ref (aM 200)), (1, .int x1)] 57 []
          obtain ⟨v17, e_v17, hf⟩ := kL_e hf
          refine z_iinc (pc := 57) (k0 := 1) (v := v17) (lv' := [(1, .int v17), (0, .ref (aM 200))]) E dX12_takesNumber_57 rfl e_v17 (by decide) rfl ?_
          refine z_goto (pc := 60) (tgt := 16) E dX12_takesNumber_60 (by decide) ?_
          refine z_sub [1, 0] (lv' := [(0, .ref (aM 200)), (1, .int v17)]) rfl ?_
          exact ih16 SM_16 v17 hf
  unfold f_X12_takesNumber at hf
  refine z_aload_n (pc := 0) (k0 := 0) E dX12_takesNumber_0 rfl rfl ?_
  obtain ⟨r1, h2, hf⟩ := kC_e hf
  refine z_callV0 (pc := 1) (is := [0]) (n := 0) (As := []) (st := []) (st' := [.int r1]) (C2 := [wM aM ct SM]) E (c_X12_isDigit (l := l) (G := G) (ct := ct) (aM := aM) h2) wv_X12_isDigit wd_27_9 ⟨Nat.le_of_ble_eq_true rfl, Nat.le_of_ble_eq_true rfl, Nat.le_of_ble_eq_true rfl, Nat.le_of_ble_eq_true rfl⟩ rfl rfl rfl (by decide) rfl rfl (zrM (j := 0) rfl) rfl (Nat.le_of_ble_eq_true rfl) dX12_takesNumber_1 rfl rfl ?_
  refine z_if_ne (pc := 4) (tgt := 9) E dX12_takesNumber_4 (by decide) (fun c3 => ?_) (fun c3 => ?_)
  · have hf := kB_f hf c3
    refine z_aload_n (pc := 9) (k0 := 0) E dX12_takesNumber_9 rfl rfl ?_
    refine z_iconst (pc := 10) (v := 0) E dX12_takesNumber_10 (by decide) ?_
    obtain ⟨SM_4, e_SM_4, hf⟩ := kL_e hf
    refine pM_18 (pc := 11) (i := 0) (S1 := SM_4) E rfl e_SM_4 wd_4_13 dX12_takesNumber_11 ?_
    show zJ p l e rm_X12_takesNumber s m args below meth c (zQ G ct (some (.int r0)) [wM aM ct OM] A below args s 0 0) A G 2 0 0 [wM aM ct SM_4] [(0, .ref (aM 200))] 14 []
    refine z_iconst (pc := 14) (v := 0) E dX12_takesNumber_14 (by decide) ?_
    refine z_istore_n (pc := 15) (lv' := [(1, .int 0), (0, .ref (aM 200))]) E dX12_takesNumber_15 rfl (by decide) rfl ?_
    refine z_sub [1, 0] (lv' := [(0, .ref (aM 200)), (1, .int 0)]) rfl ?_
    exact L16 N SM_4 0 hf
  · have hf := kB_t hf c3
    refine z_iconst (pc := 7) (v := 0) E dX12_takesNumber_7 (by decide) ?_
    cases hf
    exact z_zret E hr (by decide) dX12_takesNumber_8
