noncomputable def f_X12_goesText_l15 (N : Nat) : Nat → zMS → Int32 → Int32 → Option (Int32 × zMS) := fun n => Nat.rec (motive := fun _ => zMS → Int32 → Int32 → Option (Int32 × zMS)) (fun _ _ _ => none) (fun _ ih SM x1 x2 => kL ((10 : Int32) * x1) (fun v4 => kL (v4 + x2) (fun v5 => kD (f_X12_takesClause N SM v5) (fun r6 SM_7 => kB (r6 = 0) (some (0, SM_7)) (kL (x2 + 1) (fun v10 => kO (¬ (x1 < 0 ∨ 6 ≤ Int32.toNatClampNeg x1)) (kL (mSA SM_7 20 (upd (SM_7.2.1 20) (Int32.toNatClampNeg x1) v10)) (fun SM_12 => kB ((SM_12.1 17) = (SM_12.1 16)) (some (1, SM_12)) (kB (v10 = 10) (some (0, SM_12)) (kD (f_X12_takes SM_12 59) (fun r15 SM_16 => kB (r15 = 0) (some (0, SM_16)) (ih SM_16 x1 v10)))))))))))) n
theorem f_X12_goesText_l15_z (N : Nat) (SM : zMS) (x1 : Int32) (x2 : Int32) : f_X12_goesText_l15 N 0 SM x1 x2 = none := rfl
theorem f_X12_goesText_l15_s (N : Nat) (n : Nat) (SM : zMS) (x1 : Int32) (x2 : Int32) : f_X12_goesText_l15 N (n + 1) SM x1 x2 = kL ((10 : Int32) * x1) (fun v4 => kL (v4 + x2) (fun v5 => kD (f_X12_takesClause N SM v5) (fun r6 SM_7 => kB (r6 = 0) (some (0, SM_7)) (kL (x2 + 1) (fun v10 => kO (¬ (x1 < 0 ∨ 6 ≤ Int32.toNatClampNeg x1)) (kL (mSA SM_7 20 (upd (SM_7.2.1 20) (Int32.toNatClampNeg x1) v10)) (fun SM_12 => kB ((SM_12.1 17) = (SM_12.1 16)) (some (1, SM_12)) (kB (v10 = 10) (some (0, SM_12)) (kD (f_X12_takes SM_12 59) (fun r15 SM_16 => kB (r15 = 0) (some (0, SM_16)) ((f_X12_goesText_l15 N n) SM_16 x1 v10))))))))))) := rfl
noncomputable def f_X12_goesText (N : Nat) (SM : zMS) (a1 : Int32) : Option (Int32 × zMS) := kL (mSI SM 17 0) (fun SM_1 => kL ((100 : Int32) * a1) (fun v2 => kL (mSI SM_1 27 v2) (fun SM_3 => f_X12_goesText_l15 N N SM_3 a1 0)))
theorem wv_X12_goesText : zWV RX12 yX12_goesText cX12_goesText 3 (some .boolean) 1 := ⟨wd_26_6, wd_26_7, wd_1_5, wd_26_8, by decide +kernel⟩
def rm_X12_goesText : Room := { frames := 6, cells := 0, slots := 0, locals := 130 }
set_option maxHeartbeats 4000000 in
set_option maxRecDepth 100000 in
theorem c_X12_goesText {l : Launch} {G : va_G} {ct : Nat → ClassId} {aM : Nat → Nat} {N : Nat} {SM : zMS} {a1 : Int32} {r0 : Int32} {OM : zMS} (hf : f_X12_goesText N SM a1 = some (r0, OM)) : zC l yX12_goesText cX12_goesText 3 (some .boolean) rm_X12_goesText G ct [.ref (aM 200), .int a1] [wM aM ct SM] [wM aM ct OM] (some (.int r0)) 0 0 := by
  refine z_enter (own := RX12) (lv := [(0, .ref (aM 200)), (1, .int a1)]) (by decide) rfl (Nat.le_of_ble_eq_true rfl) rfl ?_
  intro p e s m args below meth c A E hr hnm
  have L15 : ∀ (n15 : Nat) (SM : zMS) (x1 : Int32) (x2 : Int32), f_X12_goesText_l15 N n15 SM x1 x2 = some (r0, OM) → zJ p l e rm_X12_goesText s m args below meth c (zQ G ct (some (.int r0)) [wM aM ct OM] A below args s 0 0) A G 3 0 0 [wM aM ct SM] [(0, .ref (aM 200)), (1, .int x1), (2, .int x2)] 15 [] := by
    intro n15
    induction n15 with
    | zero =>
      intro SM x1 x2 hf
      rw [f_X12_goesText_l15_z] at hf
      cases hf
    | succ n15 ih15 =>
      intro SM x1 x2 hf
      rw [f_X12_goesText_l15_s] at hf
      refine z_aload_n (pc := 15) (k0 := 0) E dX12_goesText_15 rfl rfl ?_
      refine z_bipush (pc := 16) (v := 10) E dX12_goesText_16 (by decide) ?_
      refine z_iload_n (pc := 18) (k0 := 1) E dX12_goesText_18 rfl rfl ?_
      obtain ⟨v4, e_v4, hf⟩ := kL_e hf
      refine z_imul (pc := 19) (v := v4) E dX12_goesText_19 e_v4 ?_
      refine z_iload_n (pc := 20) (k0 := 2) E dX12_goesText_20 rfl rfl ?_
      obtain ⟨v5, e_v5, hf⟩ := kL_e hf
      refine z_iadd (pc := 21) (v := v5) E dX12_goesText_21 e_v5 ?_
      obtain ⟨r6, SM_7, h8, hf⟩ := kD_e hf
      refine z_callV0 (pc := 22) (is := [0]) (n := 1) (As := [.int v5]) (st := []) (st' := [.int r6]) (C2 := [wM aM ct SM_7]) E (c_X12_takesClause (l := l) (G := G) (ct := ct) (aM := aM) h8) wv_X12_takesClause wd_26_9 ⟨Nat.le_of_ble_eq_true rfl, Nat.le_of_ble_eq_true rfl, Nat.le_of_ble_eq_true rfl, Nat.le_of_ble_eq_true rfl⟩ rfl rfl rfl (by decide) rfl rfl (zrM (j := 0) rfl) rfl (Nat.le_of_ble_eq_true rfl) dX12_goesText_22 rfl rfl ?_
      refine z_if_ne (pc := 25) (tgt := 30) E dX12_goesText_25 (by decide) (fun c9 => ?_) (fun c9 => ?_)
      · have hf := kB_f hf c9
        obtain ⟨v10, e_v10, hf⟩ := kL_e hf
        refine z_iinc (pc := 30) (k0 := 2) (v := v10) (lv' := [(2, .int v10), (0, .ref (aM 200)), (1, .int x1)]) E dX12_goesText_30 rfl e_v10 (by decide) rfl ?_
        refine z_aload_n (pc := 33) (k0 := 1) E dX12_goesText_33 rfl rfl ?_
        refine gM_20 (pc := 34) (i := 0) E rfl wd_4_15 dX12_goesText_34 ?_
        refine z_iload_n (pc := 37) (k0 := 2) E dX12_goesText_37 rfl rfl ?_
        refine z_iload_n (pc := 38) (k0 := 0) E dX12_goesText_38 rfl rfl ?_
        obtain ⟨c11, hf⟩ := kO_e hf
        obtain ⟨SM_12, e_SM_12, hf⟩ := kL_e hf
        refine sM_20 (pc := 39) (i := 0) (S1 := SM_12) E rfl c11 e_SM_12 dX12_goesText_39 ?_
        show zJ p l e rm_X12_goesText s m args below meth c (zQ G ct (some (.int r0)) [wM aM ct OM] A below args s 0 0) A G 3 0 0 [wM aM ct SM_12] [(2, .int v10), (0, .ref (aM 200)), (1, .int x1)] 40 []
        refine z_aload_n (pc := 40) (k0 := 1) E dX12_goesText_40 rfl rfl ?_
        refine gM_17 (pc := 41) (i := 0) E rfl wd_4_12 dX12_goesText_41 ?_
        refine z_aload_n (pc := 44) (k0 := 1) E dX12_goesText_44 rfl rfl ?_
        refine gM_16 (pc := 45) (i := 0) E rfl wd_4_11 dX12_goesText_45 ?_
        refine z_icmp_ne (pc := 48) (tgt := 53) E dX12_goesText_48 (by decide) (fun c13 => ?_) (fun c13 => ?_)
        · have hf := kB_f hf c13
          refine z_iload_n (pc := 53) (k0 := 0) E dX12_goesText_53 rfl rfl ?_
          refine z_bipush (pc := 54) (v := 10) E dX12_goesText_54 (by decide) ?_
          refine z_icmp_eq (pc := 56) (tgt := 68) E dX12_goesText_56 (by decide) (fun c14 => ?_) (fun c14 => ?_)
          · have hf := kB_t hf c14
            refine z_iconst (pc := 68) (v := 0) E dX12_goesText_68 (by decide) ?_
            cases hf
            exact z_zret E hr (by decide) dX12_goesText_69
          · have hf := kB_f hf c14
            refine z_aload_n (pc := 59) (k0 := 1) E dX12_goesText_59 rfl rfl ?_
            refine z_bipush (pc := 60) (v := 59) E dX12_goesText_60 (by decide) ?_
            obtain ⟨r15, SM_16, h17, hf⟩ := kD_e hf
            refine z_callV0 (pc := 62) (is := [0]) (n := 1) (As := [.int 59]) (st := []) (st' := [.int r15]) (C2 := [wM aM ct SM_16]) E (c_X12_takes (l := l) (G := G) (ct := ct) (aM := aM) h17) wv_X12_takes wd_27_1 ⟨Nat.le_of_ble_eq_true rfl, Nat.le_of_ble_eq_true rfl, Nat.le_of_ble_eq_true rfl, Nat.le_of_ble_eq_true rfl⟩ rfl rfl rfl (by decide) rfl rfl (zrM (j := 0) rfl) rfl (Nat.le_of_ble_eq_true rfl) dX12_goesText_62 rfl rfl ?_
            refine z_if_ne (pc := 65) (tgt := 15) E dX12_goesText_65 (by decide) (fun c18 => ?_) (fun c18 => ?_)
            · have hf := kB_f hf c18
              refine z_sub [1, 2, 0] (lv' := [(0, .ref (aM 200)), (1, .int x1), (2, .int v10)]) rfl ?_
              exact ih15 SM_16 x1 v10 hf
            · have hf := kB_t hf c18
              refine z_iconst (pc := 68) (v := 0) E dX12_goesText_68 (by decide) ?_
              cases hf
              exact z_zret E hr (by decide) dX12_goesText_69
        · have hf := kB_t hf c13
          refine z_iconst (pc := 51) (v := 1) E dX12_goesText_51 (by decide) ?_
          cases hf
          exact z_zret E hr (by decide) dX12_goesText_52
      · have hf := kB_t hf c9
        refine z_iconst (pc := 28) (v := 0) E dX12_goesText_28 (by decide) ?_
        cases hf
        exact z_zret E hr (by decide) dX12_goesText_29
  unfold f_X12_goesText at hf
  refine z_aload_n (pc := 0) (k0 := 0) E dX12_goesText_0 rfl rfl ?_
  refine z_iconst (pc := 1) (v := 0) E dX12_goesText_1 (by decide) ?_
  obtain ⟨SM_1, e_SM_1, hf⟩ := kL_e hf
  refine pM_17 (pc := 2) (i := 0) (S1 := SM_1) E rfl e_SM_1 wd_4_12 dX12_goesText_2 ?_
  show zJ p l e rm_X12_goesText s m args below meth c (zQ G ct (some (.int r0)) [wM aM ct OM] A below args s 0 0) A G 3 0 0 [wM aM ct SM_1] [(0, .ref (aM 200)), (1, .int a1)] 5 []
  refine z_aload_n (pc := 5) (k0 := 0) E dX12_goesText_5 rfl rfl ?_
  refine z_bipush (pc := 6) (v := 100) E dX12_goesText_6 (by decide) ?_
  refine z_iload_n (pc := 8) (k0 := 1) E dX12_goesText_8 rfl rfl ?_
  obtain ⟨v2, e_v2, hf⟩ := kL_e hf
  refine z_imul (pc := 9) (v := v2) E dX12_goesText_9 e_v2 ?_
  obtain ⟨SM_3, e_SM_3, hf⟩ := kL_e hf
  refine pM_27 (pc := 10) (i := 0) (S1 := SM_3) E rfl e_SM_3 wd_4_22 dX12_goesText_10 ?_
  show zJ p l e rm_X12_goesText s m args below meth c (zQ G ct (some (.int r0)) [wM aM ct OM] A below args s 0 0) A G 3 0 0 [wM aM ct SM_3] [(0, .ref (aM 200)), (1, .int a1)] 13 []
  refine z_iconst (pc := 13) (v := 0) E dX12_goesText_13 (by decide) ?_
  refine z_istore_n (pc := 14) (lv' := [(2, .int 0), (0, .ref (aM 200)), (1, .int a1)]) E dX12_goesText_14 rfl (by decide) rfl ?_
  refine z_sub [1, 2, 0] (lv' := [(0, .ref (aM 200)), (1, .int a1), (2, .int 0)]) rfl ?_
  exact L15 N SM_3 a1 0 hf
noncomputable def f_X12_house (N : Nat) (SM : zMS) : Option (Int32 × zMS) := kB ((SM.1 14) = 6) (some ((-4), SM)) (kD (f_X12_goesText N SM (SM.1 14)) (fun r2 SM_3 => kL (mSI SM_3 16 0) (fun SM_5 => kB (r2 = 0) (kL ((-10) - (SM_5.1 17)) (fun v10 => some (v10, SM_5))) (kL (mSI SM_5 15 (SM_5.1 14)) (fun SM_7 => kL ((SM_7.1 14) + 1) (fun v8 => kL (mSI SM_7 14 v8) (fun SM_9 => some ((SM_9.1 15), SM_9))))))))
theorem wv_X12_house : zWV RX12 yX12_house cX12_house 2 (some .int) 0 := ⟨wd_26_2, wd_26_3, wd_1_5, wd_26_4, by decide +kernel⟩
def rm_X12_house : Room := { frames := 7, cells := 0, slots := 0, locals := 152 }
set_option maxHeartbeats 4000000 in
set_option maxRecDepth 100000 in
theorem c_X12_house {l : Launch} {G : va_G} {ct : Nat → ClassId} {aM : Nat → Nat} {N : Nat} {SM : zMS} {r0 : Int32} {OM : zMS} (hf : f_X12_house N SM = some (r0, OM)) : zC l yX12_house cX12_house 2 (some .int) rm_X12_house G ct [.ref (aM 200)] [wM aM ct SM] [wM aM ct OM] (some (.int r0)) 0 0 := by
  refine z_enter (own := RX12) (lv := [(0, .ref (aM 200))]) (by decide) rfl (Nat.le_of_ble_eq_true rfl) rfl ?_
  intro p e s m args below meth c A E hr hnm
  unfold f_X12_house at hf
  refine z_aload_n (pc := 0) (k0 := 0) E dX12_house_0 rfl rfl ?_
  refine gM_14 (pc := 1) (i := 0) E rfl wd_4_9 dX12_house_1 ?_
  refine z_bipush (pc := 4) (v := 6) E dX12_house_4 (by decide) ?_
  refine z_icmp_ne (pc := 6) (tgt := 12) E dX12_house_6 (by decide) (fun c1 => ?_) (fun c1 => ?_)
  · have hf := kB_f hf c1
    refine z_aload_n (pc := 12) (k0 := 0) E dX12_house_12 rfl rfl ?_
    refine z_aload_n (pc := 13) (k0 := 0) E dX12_house_13 rfl rfl ?_
    refine gM_14 (pc := 14) (i := 0) E rfl wd_4_9 dX12_house_14 ?_
    obtain ⟨r2, SM_3, h4, hf⟩ := kD_e hf
    refine z_callV0 (pc := 17) (is := [0]) (n := 1) (As := [.int (SM.1 14)]) (st := []) (st' := [.int r2]) (C2 := [wM aM ct SM_3]) E (c_X12_goesText (l := l) (G := G) (ct := ct) (aM := aM) h4) wv_X12_goesText wd_26_5 ⟨Nat.le_of_ble_eq_true rfl, Nat.le_of_ble_eq_true rfl, Nat.le_of_ble_eq_true rfl, Nat.le_of_ble_eq_true rfl⟩ rfl rfl rfl (by decide) rfl rfl (zrM (j := 0) rfl) rfl (Nat.le_of_ble_eq_true rfl) dX12_house_17 rfl rfl ?_
    refine z_istore_n (pc := 20) (lv' := [(1, .int r2), (0, .ref (aM 200))]) E dX12_house_20 rfl (by decide) rfl ?_
    refine z_aload_n (pc := 21) (k0 := 1) E dX12_house_21 rfl rfl ?_
    refine z_iconst (pc := 22) (v := 0) E dX12_house_22 (by decide) ?_
    obtain ⟨SM_5, e_SM_5, hf⟩ := kL_e hf
    refine pM_16 (pc := 23) (i := 0) (S1 := SM_5) E rfl e_SM_5 wd_4_11 dX12_house_23 ?_
    show zJ p l e rm_X12_house s m args below meth c (zQ G ct (some (.int r0)) [wM aM ct OM] A below args s 0 0) A G 2 0 0 [wM aM ct SM_5] [(1, .int r2), (0, .ref (aM 200))] 26 []
    refine z_iload_n (pc := 26) (k0 := 0) E dX12_house_26 rfl rfl ?_
    refine z_if_ne (pc := 27) (tgt := 38) E dX12_house_27 (by decide) (fun c6 => ?_) (fun c6 => ?_)
    · have hf := kB_f hf c6
      refine z_aload_n (pc := 38) (k0 := 1) E dX12_house_38 rfl rfl ?_
      refine z_aload_n (pc := 39) (k0 := 1) E dX12_house_39 rfl rfl ?_
      refine gM_14 (pc := 40) (i := 0) E rfl wd_4_9 dX12_house_40 ?_
      obtain ⟨SM_7, e_SM_7, hf⟩ := kL_e hf
      refine pM_15 (pc := 43) (i := 0) (S1 := SM_7) E rfl e_SM_7 wd_4_10 dX12_house_43 ?_
      show zJ p l e rm_X12_house s m args below meth c (zQ G ct (some (.int r0)) [wM aM ct OM] A below args s 0 0) A G 2 0 0 [wM aM ct SM_7] [(1, .int r2), (0, .ref (aM 200))] 46 []
      refine z_aload_n (pc := 46) (k0 := 1) E dX12_house_46 rfl rfl ?_
      refine z_dup (pc := 47) E dX12_house_47 rfl ?_
      refine gM_14 (pc := 48) (i := 0) E rfl wd_4_9 dX12_house_48 ?_
      refine z_iconst (pc := 51) (v := 1) E dX12_house_51 (by decide) ?_
      obtain ⟨v8, e_v8, hf⟩ := kL_e hf
      refine z_iadd (pc := 52) (v := v8) E dX12_house_52 e_v8 ?_
      obtain ⟨SM_9, e_SM_9, hf⟩ := kL_e hf
      refine pM_14 (pc := 53) (i := 0) (S1 := SM_9) E rfl e_SM_9 wd_4_9 dX12_house_53 ?_
      show zJ p l e rm_X12_house s m args below meth c (zQ G ct (some (.int r0)) [wM aM ct OM] A below args s 0 0) A G 2 0 0 [wM aM ct SM_9] [(1, .int r2), (0, .ref (aM 200))] 56 []
      refine z_aload_n (pc := 56) (k0 := 1) E dX12_house_56 rfl rfl ?_
      refine gM_15 (pc := 57) (i := 0) E rfl wd_4_10 dX12_house_57 ?_
      cases hf
      exact z_iret E hr dX12_house_60
    · have hf := kB_t hf c6
      refine z_bipush (pc := 30) (v := (-10)) E dX12_house_30 (by decide) ?_
      refine z_aload_n (pc := 32) (k0 := 1) E dX12_house_32 rfl rfl ?_
      refine gM_17 (pc := 33) (i := 0) E rfl wd_4_12 dX12_house_33 ?_
      obtain ⟨v10, e_v10, hf⟩ := kL_e hf
      refine z_isub (pc := 36) (v := v10) E dX12_house_36 e_v10 ?_
      cases hf
      exact z_iret E hr dX12_house_37
  · have hf := kB_t hf c1
    refine z_bipush (pc := 9) (v := (-4)) E dX12_house_9 (by decide) ?_
    cases hf
    exact z_iret E hr dX12_house_11
noncomputable def f_X12_begin (SM : zMS) : Option Int32 := kB (0 ≤ (SM.1 15)) (kL ((10 : Int32) * (SM.1 15)) (fun v2 => some (v2))) (some (0))
theorem wv_X12_begin : zWV RX12 yX12_begin cX12_begin 1 (some .int) 0 := ⟨wd_16_10, wd_16_11, wd_1_5, wd_16_12, by decide +kernel⟩
def rm_X12_begin : Room := { frames := 0, cells := 0, slots := 0, locals := 0 }
set_option maxHeartbeats 4000000 in
set_option maxRecDepth 100000 in
theorem c_X12_begin {l : Launch} {G : va_G} {ct : Nat → ClassId} {aM : Nat → Nat} {SM : zMS} {r0 : Int32} (hf : f_X12_begin SM = some r0) : zC l yX12_begin cX12_begin 1 (some .int) rm_X12_begin G ct [.ref (aM 200)] [wM aM ct SM] [wM aM ct SM] (some (.int r0)) 0 0 := by
  refine z_enter (own := RX12) (lv := [(0, .ref (aM 200))]) (by decide) rfl (Nat.le_of_ble_eq_true rfl) rfl ?_
  intro p e s m args below meth c A E hr hnm
  unfold f_X12_begin at hf
  refine z_aload_n (pc := 0) (k0 := 0) E dX12_begin_0 rfl rfl ?_
  refine gM_15 (pc := 1) (i := 0) E rfl wd_4_10 dX12_begin_1 ?_
  refine z_if_ge (pc := 4) (tgt := 11) E dX12_begin_4 (by decide) (fun c1 => ?_) (fun c1 => ?_)
  · have hf := kB_t hf c1
    refine z_bipush (pc := 11) (v := 10) E dX12_begin_11 (by decide) ?_
    refine z_aload_n (pc := 13) (k0 := 0) E dX12_begin_13 rfl rfl ?_
    refine gM_15 (pc := 14) (i := 0) E rfl wd_4_10 dX12_begin_14 ?_
    obtain ⟨v2, e_v2, hf⟩ := kL_e hf
    refine z_imul (pc := 17) (v := v2) E dX12_begin_17 e_v2 ?_
    cases hf
    exact z_iret E hr dX12_begin_18
  · have hf := kB_f hf c1
    refine z_iconst (pc := 7) (v := 0) E dX12_begin_7 (by decide) ?_
    refine z_goto (pc := 8) (tgt := 18) E dX12_begin_8 (by decide) ?_
    cases hf
    exact z_iret E hr dX12_begin_18
noncomputable def f_X12_behind (SM : zMS) : Option Int32 := kB (0 ≤ (SM.1 15)) (kL ((10 : Int32) * (SM.1 15)) (fun v2 => kO (¬ ((SM.1 15) < 0 ∨ 6 ≤ Int32.toNatClampNeg (SM.1 15))) (kL (v2 + (SM.2.1 20 (Int32.toNatClampNeg (SM.1 15)))) (fun v4 => some (v4))))) (some (0))
theorem wv_X12_behind : zWV RX12 yX12_behind cX12_behind 1 (some .int) 0 := ⟨wd_16_14, wd_16_15, wd_1_5, wd_16_16, by decide +kernel⟩
def rm_X12_behind : Room := { frames := 0, cells := 0, slots := 0, locals := 0 }
set_option maxHeartbeats 4000000 in
set_option maxRecDepth 100000 in
theorem c_X12_behind {l : Launch} {G : va_G} {ct : Nat → ClassId} {aM : Nat → Nat} {SM : zMS} {r0 : Int32} (hf : f_X12_behind SM = some r0) : zC l yX12_behind cX12_behind 1 (some .int) rm_X12_behind G ct [.ref (aM 200)] [wM aM ct SM] [wM aM ct SM] (some (.int r0)) 0 0 := by
  refine z_enter (own := RX12) (lv := [(0, .ref (aM 200))]) (by decide) rfl (Nat.le_of_ble_eq_true rfl) rfl ?_
  intro p e s m args below meth c A E hr hnm
  unfold f_X12_behind at hf
  refine z_aload_n (pc := 0) (k0 := 0) E dX12_behind_0 rfl rfl ?_
  refine gM_15 (pc := 1) (i := 0) E rfl wd_4_10 dX12_behind_1 ?_
  refine z_if_ge (pc := 4) (tgt := 11) E dX12_behind_4 (by decide) (fun c1 => ?_) (fun c1 => ?_)
  · have hf := kB_t hf c1
    refine z_bipush (pc := 11) (v := 10) E dX12_behind_11 (by decide) ?_
    refine z_aload_n (pc := 13) (k0 := 0) E dX12_behind_13 rfl rfl ?_
    refine gM_15 (pc := 14) (i := 0) E rfl wd_4_10 dX12_behind_14 ?_
    obtain ⟨v2, e_v2, hf⟩ := kL_e hf
    refine z_imul (pc := 17) (v := v2) E dX12_behind_17 e_v2 ?_
    refine z_aload_n (pc := 18) (k0 := 0) E dX12_behind_18 rfl rfl ?_
    refine gM_20 (pc := 19) (i := 0) E rfl wd_4_15 dX12_behind_19 ?_
    refine z_aload_n (pc := 22) (k0 := 0) E dX12_behind_22 rfl rfl ?_
    refine gM_15 (pc := 23) (i := 0) E rfl wd_4_10 dX12_behind_23 ?_
    obtain ⟨c3, hf⟩ := kO_e hf
    refine lM_20 (pc := 26) (i := 0) E rfl c3 dX12_behind_26 ?_
    obtain ⟨v4, e_v4, hf⟩ := kL_e hf
    refine z_iadd (pc := 27) (v := v4) E dX12_behind_27 e_v4 ?_
    cases hf
    exact z_iret E hr dX12_behind_28
  · have hf := kB_f hf c1
    refine z_iconst (pc := 7) (v := 0) E dX12_behind_7 (by decide) ?_
    refine z_goto (pc := 8) (tgt := 28) E dX12_behind_8 (by decide) ?_
    cases hf
    exact z_iret E hr dX12_behind_28
noncomputable def f_X12_lastOf_l8 (N : Nat) (SM : zMS) : Nat → Int32 → Int32 → Int32 → Option Int32 := fun n => Nat.rec (motive := fun _ => Int32 → Int32 → Int32 → Option Int32) (fun _ _ _ => none) (fun _ ih x1 x3 x4 => kC (f_X12_behind SM) (fun r3 => kB (r3 ≤ x4) (some (x3)) (kO (¬ (x4 < 0 ∨ 60 ≤ Int32.toNatClampNeg x4)) (kB ((SM.2.1 21 (Int32.toNatClampNeg x4)) = x1) (kO (¬ (x4 < 0 ∨ 60 ≤ Int32.toNatClampNeg x4)) (kL (x4 + 1) (fun v10 => ih x1 (SM.2.1 22 (Int32.toNatClampNeg x4)) v10))) (kL (x4 + 1) (fun v8 => ih x1 x3 v8)))))) n
theorem f_X12_lastOf_l8_z (N : Nat) (SM : zMS) (x1 : Int32) (x3 : Int32) (x4 : Int32) : f_X12_lastOf_l8 N SM 0 x1 x3 x4 = none := rfl
theorem f_X12_lastOf_l8_s (N : Nat) (SM : zMS) (n : Nat) (x1 : Int32) (x3 : Int32) (x4 : Int32) : f_X12_lastOf_l8 N SM (n + 1) x1 x3 x4 = kC (f_X12_behind SM) (fun r3 => kB (r3 ≤ x4) (some (x3)) (kO (¬ (x4 < 0 ∨ 60 ≤ Int32.toNatClampNeg x4)) (kB ((SM.2.1 21 (Int32.toNatClampNeg x4)) = x1) (kO (¬ (x4 < 0 ∨ 60 ≤ Int32.toNatClampNeg x4)) (kL (x4 + 1) (fun v10 => (f_X12_lastOf_l8 N SM n) x1 (SM.2.1 22 (Int32.toNatClampNeg x4)) v10))) (kL (x4 + 1) (fun v8 => (f_X12_lastOf_l8 N SM n) x1 x3 v8))))) := rfl
noncomputable def f_X12_lastOf (N : Nat) (SM : zMS) (a1 : Int32) (a2 : Int32) : Option Int32 := kC (f_X12_begin SM) (fun r1 => f_X12_lastOf_l8 N SM N a1 a2 r1)
theorem wv_X12_lastOf : zWV RX12 yX12_lastOf cX12_lastOf 5 (some .int) 2 := ⟨wd_16_6, wd_16_7, wd_1_5, wd_16_8, by decide +kernel⟩
def rm_X12_lastOf : Room := { frames := 1, cells := 0, slots := 0, locals := 20 }
set_option maxHeartbeats 4000000 in
set_option maxRecDepth 100000 in
theorem c_X12_lastOf {l : Launch} {G : va_G} {ct : Nat → ClassId} {aM : Nat → Nat} {N : Nat} {SM : zMS} {a1 : Int32} {a2 : Int32} {r0 : Int32} (hf : f_X12_lastOf N SM a1 a2 = some r0) : zC l yX12_lastOf cX12_lastOf 5 (some .int) rm_X12_lastOf G ct [.ref (aM 200), .int a1, .int a2] [wM aM ct SM] [wM aM ct SM] (some (.int r0)) 0 0 := by
  refine z_enter (own := RX12) (lv := [(0, .ref (aM 200)), (1, .int a1), (2, .int a2)]) (by decide) rfl (Nat.le_of_ble_eq_true rfl) rfl ?_
  intro p e s m args below meth c A E hr hnm
  have L8 : ∀ (n8 : Nat) (x1 : Int32) (x3 : Int32) (x4 : Int32), f_X12_lastOf_l8 N SM n8 x1 x3 x4 = some r0 → zJ p l e rm_X12_lastOf s m args below meth c (zQ G ct (some (.int r0)) [wM aM ct SM] A below args s 0 0) A G 5 0 0 [wM aM ct SM] [(0, .ref (aM 200)), (1, .int x1), (3, .int x3), (4, .int x4)] 8 [] := by
    intro n8
    induction n8 with
    | zero =>
      intro x1 x3 x4 hf
      rw [f_X12_lastOf_l8_z] at hf
      cases hf
    | succ n8 ih8 =>
      intro x1 x3 x4 hf
      rw [f_X12_lastOf_l8_s] at hf
      refine z_iload (pc := 8) (k0 := 3) E dX12_lastOf_8 rfl ?_
      refine z_aload_n (pc := 10) (k0 := 0) E dX12_lastOf_10 rfl rfl ?_
      obtain ⟨r3, h4, hf⟩ := kC_e hf
      refine z_callV0 (pc := 11) (is := [0]) (n := 0) (As := []) (st := [.int x4]) (st' := [.int r3, .int x4]) (C2 := [wM aM ct SM]) E (c_X12_behind (l := l) (G := G) (ct := ct) (aM := aM) h4) wv_X12_behind wd_16_13 ⟨Nat.le_of_ble_eq_true rfl, Nat.le_of_ble_eq_true rfl, Nat.le_of_ble_eq_true rfl, Nat.le_of_ble_eq_true rfl⟩ rfl rfl rfl (by decide) rfl rfl (zrM (j := 0) rfl) rfl (Nat.le_of_ble_eq_true rfl) dX12_lastOf_11 rfl rfl ?_
      refine z_icmp_ge (pc := 14) (tgt := 46) E dX12_lastOf_14 (by decide) (fun c5 => ?_) (fun c5 => ?_)
      · have hf := kB_t hf c5
        refine z_iload_n (pc := 46) (k0 := 2) E dX12_lastOf_46 rfl rfl ?_
        cases hf
        exact z_iret E hr dX12_lastOf_47
      · have hf := kB_f hf c5
        refine z_aload_n (pc := 17) (k0 := 0) E dX12_lastOf_17 rfl rfl ?_
        refine gM_21 (pc := 18) (i := 0) E rfl wd_4_16 dX12_lastOf_18 ?_
        refine z_iload (pc := 21) (k0 := 3) E dX12_lastOf_21 rfl ?_
        obtain ⟨c6, hf⟩ := kO_e hf
        refine lM_21 (pc := 23) (i := 0) E rfl c6 dX12_lastOf_23 ?_
        refine z_iload_n (pc := 24) (k0 := 1) E dX12_lastOf_24 rfl rfl ?_
        refine z_icmp_ne (pc := 25) (tgt := 38) E dX12_lastOf_25 (by decide) (fun c7 => ?_) (fun c7 => ?_)
        · have hf := kB_f hf c7
          refine z_iload_n (pc := 38) (k0 := 2) E dX12_lastOf_38 rfl rfl ?_
          refine z_istore_n (pc := 39) (lv' := [(3, .int x3), (0, .ref (aM 200)), (1, .int x1), (4, .int x4)]) E dX12_lastOf_39 rfl (by decide) rfl ?_
          obtain ⟨v8, e_v8, hf⟩ := kL_e hf
          refine z_iinc (pc := 40) (k0 := 3) (v := v8) (lv' := [(4, .int v8), (3, .int x3), (0, .ref (aM 200)), (1, .int x1)]) E dX12_lastOf_40 rfl e_v8 (by decide) rfl ?_
          refine z_goto (pc := 43) (tgt := 8) E dX12_lastOf_43 (by decide) ?_
          refine z_sub [2, 3, 1, 0] (lv' := [(0, .ref (aM 200)), (1, .int x1), (3, .int x3), (4, .int v8)]) rfl ?_
          exact ih8 x1 x3 v8 hf
        · have hf := kB_t hf c7
          refine z_aload_n (pc := 28) (k0 := 0) E dX12_lastOf_28 rfl rfl ?_
          refine gM_22 (pc := 29) (i := 0) E rfl wd_4_17 dX12_lastOf_29 ?_
          refine z_iload (pc := 32) (k0 := 3) E dX12_lastOf_32 rfl ?_
          obtain ⟨c9, hf⟩ := kO_e hf
          refine lM_22 (pc := 34) (i := 0) E rfl c9 dX12_lastOf_34 ?_
          refine z_goto (pc := 35) (tgt := 39) E dX12_lastOf_35 (by decide) ?_
          refine z_istore_n (pc := 39) (lv' := [(3, .int (SM.2.1 22 (Int32.toNatClampNeg x4))), (0, .ref (aM 200)), (1, .int x1), (4, .int x4)]) E dX12_lastOf_39 rfl (by decide) rfl ?_
          obtain ⟨v10, e_v10, hf⟩ := kL_e hf
          refine z_iinc (pc := 40) (k0 := 3) (v := v10) (lv' := [(4, .int v10), (3, .int (SM.2.1 22 (Int32.toNatClampNeg x4))), (0, .ref (aM 200)), (1, .int x1)]) E dX12_lastOf_40 rfl e_v10 (by decide) rfl ?_
          refine z_goto (pc := 43) (tgt := 8) E dX12_lastOf_43 (by decide) ?_
          refine z_sub [2, 3, 1, 0] (lv' := [(0, .ref (aM 200)), (1, .int x1), (3, .int (SM.2.1 22 (Int32.toNatClampNeg x4))), (4, .int v10)]) rfl ?_
          exact ih8 x1 (SM.2.1 22 (Int32.toNatClampNeg x4)) v10 hf
  unfold f_X12_lastOf at hf
  refine z_iload_n (pc := 0) (k0 := 2) E dX12_lastOf_0 rfl rfl ?_
  refine z_istore_n (pc := 1) (lv' := [(3, .int a2), (0, .ref (aM 200)), (1, .int a1), (2, .int a2)]) E dX12_lastOf_1 rfl (by decide) rfl ?_
  refine z_aload_n (pc := 2) (k0 := 1) E dX12_lastOf_2 rfl rfl ?_
  obtain ⟨r1, h2, hf⟩ := kC_e hf
  refine z_callV0 (pc := 3) (is := [0]) (n := 0) (As := []) (st := []) (st' := [.int r1]) (C2 := [wM aM ct SM]) E (c_X12_begin (l := l) (G := G) (ct := ct) (aM := aM) h2) wv_X12_begin wd_16_9 ⟨Nat.le_of_ble_eq_true rfl, Nat.le_of_ble_eq_true rfl, Nat.le_of_ble_eq_true rfl, Nat.le_of_ble_eq_true rfl⟩ rfl rfl rfl (by decide) rfl rfl (zrM (j := 0) rfl) rfl (Nat.le_of_ble_eq_true rfl) dX12_lastOf_3 rfl rfl ?_
  refine z_istore (pc := 6) (lv' := [(4, .int r1), (3, .int a2), (0, .ref (aM 200)), (1, .int a1), (2, .int a2)]) E dX12_lastOf_6 (by decide) rfl ?_
  refine z_sub [2, 3, 1, 0] (lv' := [(0, .ref (aM 200)), (1, .int a1), (3, .int a2), (4, .int r1)]) rfl ?_
  exact L8 N a1 a2 r1 hf
noncomputable def f_X12_factOf (SM : zMS) (a1 : Int32) (a2 : Int32) (a3 : Int32) : Option Int32 := kB (a1 = 0) (some (a2)) (kB (a1 = 1) (kO (¬ (a2 < 0 ∨ 4 ≤ Int32.toNatClampNeg a2)) (some ((SM.2.1 11 (Int32.toNatClampNeg a2))))) (kB (a1 = 2) (some (a3)) (kB (a1 = 3) (kL ((SM.1 3) / 10) (fun v6 => some (v6))) (kB (a1 = 4) (some ((SM.1 5))) (kO (¬ (a3 < 0 ∨ 7 ≤ Int32.toNatClampNeg a3)) (kL ((SM.2.1 10 (Int32.toNatClampNeg a3)) - (SM.2.1 10 (Int32.toNatClampNeg a3)) / 100 * 100) (fun v9 => some (v9))))))))
theorem wv_X12_factOf : zWV RX12 yX12_factOf cX12_factOf 4 (some .int) 3 := ⟨wd_17_2, wd_17_3, wd_1_5, wd_17_4, by decide +kernel⟩
def rm_X12_factOf : Room := { frames := 0, cells := 0, slots := 0, locals := 0 }
set_option maxHeartbeats 4000000 in
set_option maxRecDepth 100000 in
theorem c_X12_factOf {l : Launch} {G : va_G} {ct : Nat → ClassId} {aM : Nat → Nat} {SM : zMS} {a1 : Int32} {a2 : Int32} {a3 : Int32} {r0 : Int32} (hf : f_X12_factOf SM a1 a2 a3 = some r0) : zC l yX12_factOf cX12_factOf 4 (some .int) rm_X12_factOf G ct [.ref (aM 200), .int a1, .int a2, .int a3] [wM aM ct SM] [wM aM ct SM] (some (.int r0)) 0 0 := by
  refine z_enter (own := RX12) (lv := [(0, .ref (aM 200)), (1, .int a1), (2, .int a2), (3, .int a3)]) (by decide) rfl (Nat.le_of_ble_eq_true rfl) rfl ?_
  intro p e s m args below meth c A E hr hnm
  unfold f_X12_factOf at hf
  refine z_iload_n (pc := 0) (k0 := 1) E dX12_factOf_0 rfl rfl ?_
  by_cases c1 : a1 = 0
  · have hf := kB_t hf c1
    refine z_tswIn (pc := 1) (tgt := 36) (v := 0) (n := 0) (off := 35) E dX12_factOf_1 c1 (by decide) (by decide) (by decide) (by decide) (by decide) ?_
    refine z_iload_n (pc := 36) (k0 := 2) E dX12_factOf_36 rfl rfl ?_
    cases hf
    exact z_iret E hr dX12_factOf_37
  have hf := kB_f hf c1
  by_cases c2 : a1 = 1
  · have hf := kB_t hf c2
    refine z_tswIn (pc := 1) (tgt := 38) (v := 1) (n := 1) (off := 37) E dX12_factOf_1 c2 (by decide) (by decide) (by decide) (by decide) (by decide) ?_
    refine z_aload_n (pc := 38) (k0 := 0) E dX12_factOf_38 rfl rfl ?_
    refine gM_11 (pc := 39) (i := 0) E rfl wd_4_6 dX12_factOf_39 ?_
    refine z_iload_n (pc := 42) (k0 := 2) E dX12_factOf_42 rfl rfl ?_
    obtain ⟨c3, hf⟩ := kO_e hf
    refine lM_11 (pc := 43) (i := 0) E rfl c3 dX12_factOf_43 ?_
    cases hf
    exact z_iret E hr dX12_factOf_44
  have hf := kB_f hf c2
  by_cases c4 : a1 = 2
  · have hf := kB_t hf c4
    refine z_tswIn (pc := 1) (tgt := 45) (v := 2) (n := 2) (off := 44) E dX12_factOf_1 c4 (by decide) (by decide) (by decide) (by decide) (by decide) ?_
    refine z_iload_n (pc := 45) (k0 := 3) E dX12_factOf_45 rfl rfl ?_
    cases hf
    exact z_iret E hr dX12_factOf_46
  have hf := kB_f hf c4
  by_cases c5 : a1 = 3
  · have hf := kB_t hf c5
    refine z_tswIn (pc := 1) (tgt := 47) (v := 3) (n := 3) (off := 46) E dX12_factOf_1 c5 (by decide) (by decide) (by decide) (by decide) (by decide) ?_
    refine z_aload_n (pc := 47) (k0 := 0) E dX12_factOf_47 rfl rfl ?_
    refine gM_3 (pc := 48) (i := 0) E rfl wd_3_22 dX12_factOf_48 ?_
    refine z_bipush (pc := 51) (v := 10) E dX12_factOf_51 (by decide) ?_
    obtain ⟨v6, e_v6, hf⟩ := kL_e hf
    refine z_idiv (pc := 53) (v := v6) E dX12_factOf_53 (by decide) e_v6 ?_
    cases hf
    exact z_iret E hr dX12_factOf_54
  have hf := kB_f hf c5
  by_cases c7 : a1 = 4
  · have hf := kB_t hf c7
    refine z_tswIn (pc := 1) (tgt := 55) (v := 4) (n := 4) (off := 54) E dX12_factOf_1 c7 (by decide) (by decide) (by decide) (by decide) (by decide) ?_
    refine z_aload_n (pc := 55) (k0 := 0) E dX12_factOf_55 rfl rfl ?_
    refine gM_5 (pc := 56) (i := 0) E rfl wd_4_0 dX12_factOf_56 ?_
    cases hf
    exact z_iret E hr dX12_factOf_59
  have hf := kB_f hf c7
  refine z_tswOut (pc := 1) (tgt := 60) E dX12_factOf_1 (by have n_c1 := lv_neT c1 (a := 0) (by decide); have n_c2 := lv_neT c2 (a := 1) (by decide); have n_c4 := lv_neT c4 (a := 2) (by decide); have n_c5 := lv_neT c5 (a := 3) (by decide); have n_c7 := lv_neT c7 (a := 4) (by decide); omega) (by decide) ?_
  refine z_aload_n (pc := 60) (k0 := 0) E dX12_factOf_60 rfl rfl ?_
  refine gM_10 (pc := 61) (i := 0) E rfl wd_4_5 dX12_factOf_61 ?_
  refine z_iload_n (pc := 64) (k0 := 3) E dX12_factOf_64 rfl rfl ?_
  obtain ⟨c8, hf⟩ := kO_e hf
  refine lM_10 (pc := 65) (i := 0) E rfl c8 dX12_factOf_65 ?_
  refine z_bipush (pc := 66) (v := 100) E dX12_factOf_66 (by decide) ?_
  obtain ⟨v9, e_v9, hf⟩ := kL_e hf
  refine z_irem (pc := 68) (v := v9) E dX12_factOf_68 (by decide) e_v9 ?_
  cases hf
  exact z_iret E hr dX12_factOf_69
noncomputable def f_X12_holds_l11 (N : Nat) : Nat → zMS → Int32 → Int32 → Int32 → Int32 → Int32 → Option (Int32 × zMS) := fun n => Nat.rec (motive := fun _ => zMS → Int32 → Int32 → Int32 → Int32 → Int32 → Option (Int32 × zMS)) (fun _ _ _ _ _ _ => none) (fun _ ih SM x1 x2 x3 x4 x5 => kO (¬ (x1 < 0 ∨ 60 ≤ Int32.toNatClampNeg x1)) (kB ((SM.2.1 24 (Int32.toNatClampNeg x1)) ≤ x5) (kO (¬ ((0 : Int32) < 0 ∨ 100 ≤ Int32.toNatClampNeg 0)) (kO ((SM.2.1 31 (Int32.toNatClampNeg 0)) = 0 ∨ (SM.2.1 31 (Int32.toNatClampNeg 0)) = 1) (some ((SM.2.1 31 (Int32.toNatClampNeg 0)), SM)))) (kO (¬ (x5 < 0 ∨ 600 ≤ Int32.toNatClampNeg x5)) (kB ((SM.2.1 25 (Int32.toNatClampNeg x5)) = (-33)) (kL (x4 - 1) (fun v77 => kL (x4 - 1) (fun v78 => kO (¬ (v78 < 0 ∨ 100 ≤ Int32.toNatClampNeg v78)) (kB ((SM.2.1 31 (Int32.toNatClampNeg v78)) = 0) (kO (¬ (v77 < 0 ∨ 100 ≤ Int32.toNatClampNeg v77)) (kL (mSA SM 31 (upd (SM.2.1 31) (Int32.toNatClampNeg v77) 1)) (fun SM_85 => kL (x5 + 1) (fun v86 => ih SM_85 x1 x2 x3 x4 v86)))) (kO (¬ (v77 < 0 ∨ 100 ≤ Int32.toNatClampNeg v77)) (kL (mSA SM 31 (upd (SM.2.1 31) (Int32.toNatClampNeg v77) 0)) (fun SM_82 => kL (x5 + 1) (fun v83 => ih SM_82 x1 x2 x3 x4 v83)))))))) (kB (0 ≤ (SM.2.1 25 (Int32.toNatClampNeg x5))) (kL ((SM.2.1 25 (Int32.toNatClampNeg x5)) / 1000) (fun v9 => kC (f_X12_factOf SM v9 x2 x3) (fun r10 => kL ((SM.2.1 25 (Int32.toNatClampNeg x5)) / 100) (fun v12 => kL (v12 - v12 / 10 * 10) (fun v13 => kB (v13 = 0) (kL ((SM.2.1 25 (Int32.toNatClampNeg x5)) - (SM.2.1 25 (Int32.toNatClampNeg x5)) / 100 * 100) (fun v36 => kB (v36 ≤ r10) (kO (¬ (x4 < 0 ∨ 100 ≤ Int32.toNatClampNeg x4)) (kL (mSA SM 31 (upd (SM.2.1 31) (Int32.toNatClampNeg x4) 0)) (fun SM_39 => kL (x4 + 1) (fun v40 => kL (x5 + 1) (fun v41 => ih SM_39 x1 x2 x3 v40 v41))))) (kO (¬ (x4 < 0 ∨ 100 ≤ Int32.toNatClampNeg x4)) (kL (mSA SM 31 (upd (SM.2.1 31) (Int32.toNatClampNeg x4) 1)) (fun SM_43 => kL (x4 + 1) (fun v44 => kL (x5 + 1) (fun v45 => ih SM_43 x1 x2 x3 v44 v45))))))) (kB (v13 = 1) (kL ((SM.2.1 25 (Int32.toNatClampNeg x5)) - (SM.2.1 25 (Int32.toNatClampNeg x5)) / 100 * 100) (fun v26 => kB (r10 = v26) (kO (¬ (x4 < 0 ∨ 100 ≤ Int32.toNatClampNeg x4)) (kL (mSA SM 31 (upd (SM.2.1 31) (Int32.toNatClampNeg x4) 1)) (fun SM_33 => kL (x4 + 1) (fun v34 => kL (x5 + 1) (fun v35 => ih SM_33 x1 x2 x3 v34 v35))))) (kO (¬ (x4 < 0 ∨ 100 ≤ Int32.toNatClampNeg x4)) (kL (mSA SM 31 (upd (SM.2.1 31) (Int32.toNatClampNeg x4) 0)) (fun SM_29 => kL (x4 + 1) (fun v30 => kL (x5 + 1) (fun v31 => ih SM_29 x1 x2 x3 v30 v31))))))) (kL ((SM.2.1 25 (Int32.toNatClampNeg x5)) - (SM.2.1 25 (Int32.toNatClampNeg x5)) / 100 * 100) (fun v16 => kB (r10 ≤ v16) (kO (¬ (x4 < 0 ∨ 100 ≤ Int32.toNatClampNeg x4)) (kL (mSA SM 31 (upd (SM.2.1 31) (Int32.toNatClampNeg x4) 0)) (fun SM_19 => kL (x4 + 1) (fun v20 => kL (x5 + 1) (fun v21 => ih SM_19 x1 x2 x3 v20 v21))))) (kO (¬ (x4 < 0 ∨ 100 ≤ Int32.toNatClampNeg x4)) (kL (mSA SM 31 (upd (SM.2.1 31) (Int32.toNatClampNeg x4) 1)) (fun SM_23 => kL (x4 + 1) (fun v24 => kL (x5 + 1) (fun v25 => ih SM_23 x1 x2 x3 v24 v25))))))))))))) (kL (x4 + (-1)) (fun v46 => kL (v46 - 1) (fun v47 => kB ((SM.2.1 25 (Int32.toNatClampNeg x5)) = (-38)) (kL (v46 - 1) (fun v63 => kO (¬ (v63 < 0 ∨ 100 ≤ Int32.toNatClampNeg v63)) (kB ((SM.2.1 31 (Int32.toNatClampNeg v63)) = 0) (kO (¬ (v47 < 0 ∨ 100 ≤ Int32.toNatClampNeg v47)) (kL (mSA SM 31 (upd (SM.2.1 31) (Int32.toNatClampNeg v47) 0)) (fun SM_67 => kL (x5 + 1) (fun v68 => ih SM_67 x1 x2 x3 v46 v68)))) (kO (¬ (v46 < 0 ∨ 100 ≤ Int32.toNatClampNeg v46)) (kB ((SM.2.1 31 (Int32.toNatClampNeg v46)) = 0) (kO (¬ (v47 < 0 ∨ 100 ≤ Int32.toNatClampNeg v47)) (kL (mSA SM 31 (upd (SM.2.1 31) (Int32.toNatClampNeg v47) 0)) (fun SM_72 => kL (x5 + 1) (fun v73 => ih SM_72 x1 x2 x3 v46 v73)))) (kO (¬ (v47 < 0 ∨ 100 ≤ Int32.toNatClampNeg v47)) (kL (mSA SM 31 (upd (SM.2.1 31) (Int32.toNatClampNeg v47) 1)) (fun SM_75 => kL (x5 + 1) (fun v76 => ih SM_75 x1 x2 x3 v46 v76))))))))) (kL (v46 - 1) (fun v49 => kO (¬ (v49 < 0 ∨ 100 ≤ Int32.toNatClampNeg v49)) (kB ((SM.2.1 31 (Int32.toNatClampNeg v49)) = 0) (kO (¬ (v46 < 0 ∨ 100 ≤ Int32.toNatClampNeg v46)) (kB ((SM.2.1 31 (Int32.toNatClampNeg v46)) = 0) (kO (¬ (v47 < 0 ∨ 100 ≤ Int32.toNatClampNeg v47)) (kL (mSA SM 31 (upd (SM.2.1 31) (Int32.toNatClampNeg v47) 0)) (fun SM_58 => kL (x5 + 1) (fun v59 => ih SM_58 x1 x2 x3 v46 v59)))) (kO (¬ (v47 < 0 ∨ 100 ≤ Int32.toNatClampNeg v47)) (kL (mSA SM 31 (upd (SM.2.1 31) (Int32.toNatClampNeg v47) 1)) (fun SM_61 => kL (x5 + 1) (fun v62 => ih SM_61 x1 x2 x3 v46 v62)))))) (kO (¬ (v47 < 0 ∨ 100 ≤ Int32.toNatClampNeg v47)) (kL (mSA SM 31 (upd (SM.2.1 31) (Int32.toNatClampNeg v47) 1)) (fun SM_53 => kL (x5 + 1) (fun v54 => ih SM_53 x1 x2 x3 v46 v54))))))))))))))) n
theorem f_X12_holds_l11_z (N : Nat) (SM : zMS) (x1 : Int32) (x2 : Int32) (x3 : Int32) (x4 : Int32) (x5 : Int32) : f_X12_holds_l11 N 0 SM x1 x2 x3 x4 x5 = none := rfl
theorem f_X12_holds_l11_s (N : Nat) (n : Nat) (SM : zMS) (x1 : Int32) (x2 : Int32) (x3 : Int32) (x4 : Int32) (x5 : Int32) : f_X12_holds_l11 N (n + 1) SM x1 x2 x3 x4 x5 = kO (¬ (x1 < 0 ∨ 60 ≤ Int32.toNatClampNeg x1)) (kB ((SM.2.1 24 (Int32.toNatClampNeg x1)) ≤ x5) (kO (¬ ((0 : Int32) < 0 ∨ 100 ≤ Int32.toNatClampNeg 0)) (kO ((SM.2.1 31 (Int32.toNatClampNeg 0)) = 0 ∨ (SM.2.1 31 (Int32.toNatClampNeg 0)) = 1) (some ((SM.2.1 31 (Int32.toNatClampNeg 0)), SM)))) (kO (¬ (x5 < 0 ∨ 600 ≤ Int32.toNatClampNeg x5)) (kB ((SM.2.1 25 (Int32.toNatClampNeg x5)) = (-33)) (kL (x4 - 1) (fun v77 => kL (x4 - 1) (fun v78 => kO (¬ (v78 < 0 ∨ 100 ≤ Int32.toNatClampNeg v78)) (kB ((SM.2.1 31 (Int32.toNatClampNeg v78)) = 0) (kO (¬ (v77 < 0 ∨ 100 ≤ Int32.toNatClampNeg v77)) (kL (mSA SM 31 (upd (SM.2.1 31) (Int32.toNatClampNeg v77) 1)) (fun SM_85 => kL (x5 + 1) (fun v86 => (f_X12_holds_l11 N n) SM_85 x1 x2 x3 x4 v86)))) (kO (¬ (v77 < 0 ∨ 100 ≤ Int32.toNatClampNeg v77)) (kL (mSA SM 31 (upd (SM.2.1 31) (Int32.toNatClampNeg v77) 0)) (fun SM_82 => kL (x5 + 1) (fun v83 => (f_X12_holds_l11 N n) SM_82 x1 x2 x3 x4 v83)))))))) (kB (0 ≤ (SM.2.1 25 (Int32.toNatClampNeg x5))) (kL ((SM.2.1 25 (Int32.toNatClampNeg x5)) / 1000) (fun v9 => kC (f_X12_factOf SM v9 x2 x3) (fun r10 => kL ((SM.2.1 25 (Int32.toNatClampNeg x5)) / 100) (fun v12 => kL (v12 - v12 / 10 * 10) (fun v13 => kB (v13 = 0) (kL ((SM.2.1 25 (Int32.toNatClampNeg x5)) - (SM.2.1 25 (Int32.toNatClampNeg x5)) / 100 * 100) (fun v36 => kB (v36 ≤ r10) (kO (¬ (x4 < 0 ∨ 100 ≤ Int32.toNatClampNeg x4)) (kL (mSA SM 31 (upd (SM.2.1 31) (Int32.toNatClampNeg x4) 0)) (fun SM_39 => kL (x4 + 1) (fun v40 => kL (x5 + 1) (fun v41 => (f_X12_holds_l11 N n) SM_39 x1 x2 x3 v40 v41))))) (kO (¬ (x4 < 0 ∨ 100 ≤ Int32.toNatClampNeg x4)) (kL (mSA SM 31 (upd (SM.2.1 31) (Int32.toNatClampNeg x4) 1)) (fun SM_43 => kL (x4 + 1) (fun v44 => kL (x5 + 1) (fun v45 => (f_X12_holds_l11 N n) SM_43 x1 x2 x3 v44 v45))))))) (kB (v13 = 1) (kL ((SM.2.1 25 (Int32.toNatClampNeg x5)) - (SM.2.1 25 (Int32.toNatClampNeg x5)) / 100 * 100) (fun v26 => kB (r10 = v26) (kO (¬ (x4 < 0 ∨ 100 ≤ Int32.toNatClampNeg x4)) (kL (mSA SM 31 (upd (SM.2.1 31) (Int32.toNatClampNeg x4) 1)) (fun SM_33 => kL (x4 + 1) (fun v34 => kL (x5 + 1) (fun v35 => (f_X12_holds_l11 N n) SM_33 x1 x2 x3 v34 v35))))) (kO (¬ (x4 < 0 ∨ 100 ≤ Int32.toNatClampNeg x4)) (kL (mSA SM 31 (upd (SM.2.1 31) (Int32.toNatClampNeg x4) 0)) (fun SM_29 => kL (x4 + 1) (fun v30 => kL (x5 + 1) (fun v31 => (f_X12_holds_l11 N n) SM_29 x1 x2 x3 v30 v31))))))) (kL ((SM.2.1 25 (Int32.toNatClampNeg x5)) - (SM.2.1 25 (Int32.toNatClampNeg x5)) / 100 * 100) (fun v16 => kB (r10 ≤ v16) (kO (¬ (x4 < 0 ∨ 100 ≤ Int32.toNatClampNeg x4)) (kL (mSA SM 31 (upd (SM.2.1 31) (Int32.toNatClampNeg x4) 0)) (fun SM_19 => kL (x4 + 1) (fun v20 => kL (x5 + 1) (fun v21 => (f_X12_holds_l11 N n) SM_19 x1 x2 x3 v20 v21))))) (kO (¬ (x4 < 0 ∨ 100 ≤ Int32.toNatClampNeg x4)) (kL (mSA SM 31 (upd (SM.2.1 31) (Int32.toNatClampNeg x4) 1)) (fun SM_23 => kL (x4 + 1) (fun v24 => kL (x5 + 1) (fun v25 => (f_X12_holds_l11 N n) SM_23 x1 x2 x3 v24 v25))))))))))))) (kL (x4 + (-1)) (fun v46 => kL (v46 - 1) (fun v47 => kB ((SM.2.1 25 (Int32.toNatClampNeg x5)) = (-38)) (kL (v46 - 1) (fun v63 => kO (¬ (v63 < 0 ∨ 100 ≤ Int32.toNatClampNeg v63)) (kB ((SM.2.1 31 (Int32.toNatClampNeg v63)) = 0) (kO (¬ (v47 < 0 ∨ 100 ≤ Int32.toNatClampNeg v47)) (kL (mSA SM 31 (upd (SM.2.1 31) (Int32.toNatClampNeg v47) 0)) (fun SM_67 => kL (x5 + 1) (fun v68 => (f_X12_holds_l11 N n) SM_67 x1 x2 x3 v46 v68)))) (kO (¬ (v46 < 0 ∨ 100 ≤ Int32.toNatClampNeg v46)) (kB ((SM.2.1 31 (Int32.toNatClampNeg v46)) = 0) (kO (¬ (v47 < 0 ∨ 100 ≤ Int32.toNatClampNeg v47)) (kL (mSA SM 31 (upd (SM.2.1 31) (Int32.toNatClampNeg v47) 0)) (fun SM_72 => kL (x5 + 1) (fun v73 => (f_X12_holds_l11 N n) SM_72 x1 x2 x3 v46 v73)))) (kO (¬ (v47 < 0 ∨ 100 ≤ Int32.toNatClampNeg v47)) (kL (mSA SM 31 (upd (SM.2.1 31) (Int32.toNatClampNeg v47) 1)) (fun SM_75 => kL (x5 + 1) (fun v76 => (f_X12_holds_l11 N n) SM_75 x1 x2 x3 v46 v76))))))))) (kL (v46 - 1) (fun v49 => kO (¬ (v49 < 0 ∨ 100 ≤ Int32.toNatClampNeg v49)) (kB ((SM.2.1 31 (Int32.toNatClampNeg v49)) = 0) (kO (¬ (v46 < 0 ∨ 100 ≤ Int32.toNatClampNeg v46)) (kB ((SM.2.1 31 (Int32.toNatClampNeg v46)) = 0) (kO (¬ (v47 < 0 ∨ 100 ≤ Int32.toNatClampNeg v47)) (kL (mSA SM 31 (upd (SM.2.1 31) (Int32.toNatClampNeg v47) 0)) (fun SM_58 => kL (x5 + 1) (fun v59 => (f_X12_holds_l11 N n) SM_58 x1 x2 x3 v46 v59)))) (kO (¬ (v47 < 0 ∨ 100 ≤ Int32.toNatClampNeg v47)) (kL (mSA SM 31 (upd (SM.2.1 31) (Int32.toNatClampNeg v47) 1)) (fun SM_61 => kL (x5 + 1) (fun v62 => (f_X12_holds_l11 N n) SM_61 x1 x2 x3 v46 v62)))))) (kO (¬ (v47 < 0 ∨ 100 ≤ Int32.toNatClampNeg v47)) (kL (mSA SM 31 (upd (SM.2.1 31) (Int32.toNatClampNeg v47) 1)) (fun SM_53 => kL (x5 + 1) (fun v54 => (f_X12_holds_l11 N n) SM_53 x1 x2 x3 v46 v54)))))))))))))) := rfl
noncomputable def f_X12_holds (N : Nat) (SM : zMS) (a1 : Int32) (a2 : Int32) (a3 : Int32) : Option (Int32 × zMS) := kO (¬ (a1 < 0 ∨ 60 ≤ Int32.toNatClampNeg a1)) (f_X12_holds_l11 N N SM a1 a2 a3 0 (SM.2.1 23 (Int32.toNatClampNeg a1)))
theorem wv_X12_holds : zWV RX12 yX12_holds cX12_holds 9 (some .boolean) 3 := ⟨wd_16_22, wd_16_23, wd_1_5, wd_17_0, by decide +kernel⟩
def rm_X12_holds : Room := { frames := 1, cells := 0, slots := 0, locals := 23 }
set_option maxHeartbeats 4000000 in
set_option maxRecDepth 100000 in
theorem c_X12_holds {l : Launch} {G : va_G} {ct : Nat → ClassId} {aM : Nat → Nat} {N : Nat} {SM : zMS} {a1 : Int32} {a2 : Int32} {a3 : Int32} {r0 : Int32} {OM : zMS} (hf : f_X12_holds N SM a1 a2 a3 = some (r0, OM)) : zC l yX12_holds cX12_holds 9 (some .boolean) rm_X12_holds G ct [.ref (aM 200), .int a1, .int a2, .int a3] [wM aM ct SM] [wM aM ct OM] (some (.int r0)) 0 0 := by
  refine z_enter (own := RX12) (lv := [(0, .ref (aM 200)), (1, .int a1), (2, .int a2), (3, .int a3)]) (by decide) rfl (Nat.le_of_ble_eq_true rfl) rfl ?_
  intro p e s m args below meth c A E hr hnm
  have L11 : ∀ (n11 : Nat) (SM : zMS) (x1 : Int32) (x2 : Int32) (x3 : Int32) (x4 : Int32) (x5 : Int32), f_X12_holds_l11 N n11 SM x1 x2 x3 x4 x5 = some (r0, OM) → zJ p l e rm_X12_holds s m args below meth c (zQ G ct (some (.int r0)) [wM aM ct OM] A below args s 0 0) A G 9 0 0 [wM aM ct SM] [(0, .ref (aM 200)), (1, .int x1), (2, .int x2), (3, .int x3), (4, .int x4), (5, .int x5)] 11 [] := by
    intro n11
    induction n11 with
    | zero =>
      intro SM x1 x2 x3 x4 x5 hf
      rw [f_X12_holds_l11_z] at hf
      cases hf
    | succ n11 ih11 =>
      intro SM x1 x2 x3 x4 x5 hf
      rw [f_X12_holds_l11_s] at hf
      refine z_iload (pc := 11) (k0 := 5) E dX12_holds_11 rfl ?_
      refine z_aload_n (pc := 13) (k0 := 0) E dX12_holds_13 rfl rfl ?_
      refine gM_24 (pc := 14) (i := 0) E rfl wd_4_19 dX12_holds_14 ?_
      refine z_iload_n (pc := 17) (k0 := 1) E dX12_holds_17 rfl rfl ?_
      obtain ⟨c2, hf⟩ := kO_e hf
      refine lM_24 (pc := 18) (i := 0) E rfl c2 dX12_holds_18 ?_
      refine z_icmp_ge (pc := 19) (tgt := 253) E dX12_holds_19 (by decide) (fun c3 => ?_) (fun c3 => ?_)
      · have hf := kB_t hf c3
        refine z_aload_n (pc := 253) (k0 := 0) E dX12_holds_253 rfl rfl ?_
        refine gM_31 (pc := 254) (i := 0) E rfl wd_5_2 dX12_holds_254 ?_
        refine z_iconst (pc := 257) (v := 0) E dX12_holds_257 (by decide) ?_
        obtain ⟨c4, hf⟩ := kO_e hf
        refine lM_31 (pc := 258) (i := 0) E rfl c4 dX12_holds_258 ?_
        obtain ⟨c5, hf⟩ := kO_e hf
        cases hf
        exact z_zret E hr c5 dX12_holds_259
      · have hf := kB_f hf c3
        refine z_aload_n (pc := 22) (k0 := 0) E dX12_holds_22 rfl rfl ?_
        refine gM_25 (pc := 23) (i := 0) E rfl wd_4_20 dX12_holds_23 ?_
        refine z_iload (pc := 26) (k0 := 5) E dX12_holds_26 rfl ?_
        obtain ⟨c6, hf⟩ := kO_e hf
        refine lM_25 (pc := 28) (i := 0) E rfl c6 dX12_holds_28 ?_
        refine z_istore (pc := 29) (lv' := [(6, .int (SM.2.1 25 (Int32.toNatClampNeg x5))), (0, .ref (aM 200)), (1, .int x1), (2, .int x2), (3, .int x3), (4, .int x4), (5, .int x5)]) E dX12_holds_29 (by decide) rfl ?_
        refine z_iload (pc := 31) (k0 := 0) E dX12_holds_31 rfl ?_
        refine z_bipush (pc := 33) (v := (-33)) E dX12_holds_33 (by decide) ?_
        refine z_icmp_ne (pc := 35) (tgt := 67) E dX12_holds_35 (by decide) (fun c7 => ?_) (fun c7 => ?_)
        · have hf := kB_f hf c7
          refine z_iload (pc := 67) (k0 := 0) E dX12_holds_67 rfl ?_
          refine z_if_ge (pc := 69) (tgt := 151) E dX12_holds_69 (by decide) (fun c8 => ?_) (fun c8 => ?_)
          · have hf := kB_t hf c8
            refine z_aload_n (pc := 151) (k0 := 1) E dX12_holds_151 rfl rfl ?_
            refine z_iload (pc := 152) (k0 := 0) E dX12_holds_152 rfl ?_
            refine z_sipush (pc := 154) (v := 1000) E dX12_holds_154 (by decide) ?_
            obtain ⟨v9, e_v9, hf⟩ := kL_e hf
            refine z_idiv (pc := 157) (v := v9) E dX12_holds_157 (by decide) e_v9 ?_
            refine z_iload_n (pc := 158) (k0 := 3) E dX12_holds_158 rfl rfl ?_
            refine z_iload_n (pc := 159) (k0 := 4) E dX12_holds_159 rfl rfl ?_
            obtain ⟨r10, h11, hf⟩ := kC_e hf
            refine z_callV0 (pc := 160) (is := [0]) (n := 3) (As := [.int v9, .int x2, .int x3]) (st := []) (st' := [.int r10]) (C2 := [wM aM ct SM]) E (c_X12_factOf (l := l) (G := G) (ct := ct) (aM := aM) h11) wv_X12_factOf wd_17_1 ⟨Nat.le_of_ble_eq_true rfl, Nat.le_of_ble_eq_true rfl, Nat.le_of_ble_eq_true rfl, Nat.le_of_ble_eq_true rfl⟩ rfl rfl rfl (by decide) rfl rfl (zrM (j := 0) rfl) rfl (Nat.le_of_ble_eq_true rfl) dX12_holds_160 rfl rfl ?_
            refine z_istore (pc := 163) (lv' := [(7, .int r10), (6, .int (SM.2.1 25 (Int32.toNatClampNeg x5))), (0, .ref (aM 200)), (1, .int x1), (2, .int x2), (3, .int x3), (4, .int x4), (5, .int x5)]) E dX12_holds_163 (by decide) rfl ?_
            refine z_iload (pc := 165) (k0 := 1) E dX12_holds_165 rfl ?_
            refine z_bipush (pc := 167) (v := 100) E dX12_holds_167 (by decide) ?_
            obtain ⟨v12, e_v12, hf⟩ := kL_e hf
            refine z_idiv (pc := 169) (v := v12) E dX12_holds_169 (by decide) e_v12 ?_
            refine z_bipush (pc := 170) (v := 10) E dX12_holds_170 (by decide) ?_
            obtain ⟨v13, e_v13, hf⟩ := kL_e hf
            refine z_irem (pc := 172) (v := v13) E dX12_holds_172 (by decide) e_v13 ?_
            refine z_istore (pc := 173) (lv' := [(8, .int v13), (7, .int r10), (6, .int (SM.2.1 25 (Int32.toNatClampNeg x5))), (0, .ref (aM 200)), (1, .int x1), (2, .int x2), (3, .int x3), (4, .int x4), (5, .int x5)]) E dX12_holds_173 (by decide) rfl ?_
            refine z_aload_n (pc := 175) (k0 := 3) E dX12_holds_175 rfl rfl ?_
            refine gM_31 (pc := 176) (i := 0) E rfl wd_5_2 dX12_holds_176 ?_
            refine z_iload (pc := 179) (k0 := 7) E dX12_holds_179 rfl ?_
            refine z_iload (pc := 181) (k0 := 0) E dX12_holds_181 rfl ?_
            refine z_if_ne (pc := 183) (tgt := 204) E dX12_holds_183 (by decide) (fun c14 => ?_) (fun c14 => ?_)
            · have hf := kB_f hf c14
              refine z_iload (pc := 204) (k0 := 0) E dX12_holds_204 rfl ?_
              refine z_iconst (pc := 206) (v := 1) E dX12_holds_206 (by decide) ?_
              refine z_icmp_ne (pc := 207) (tgt := 228) E dX12_holds_207 (by decide) (fun c15 => ?_) (fun c15 => ?_)
              · have hf := kB_f hf c15
                refine z_iload (pc := 228) (k0 := 1) E dX12_holds_228 rfl ?_
                refine z_iload (pc := 230) (k0 := 2) E dX12_holds_230 rfl ?_
                refine z_bipush (pc := 232) (v := 100) E dX12_holds_232 (by decide) ?_
                obtain ⟨v16, e_v16, hf⟩ := kL_e hf
                refine z_irem (pc := 234) (v := v16) E dX12_holds_234 (by decide) e_v16 ?_
                refine z_icmp_le (pc := 235) (tgt := 242) E dX12_holds_235 (by decide) (fun c17 => ?_) (fun c17 => ?_)
                · have hf := kB_t hf c17
                  refine z_iconst (pc := 242) (v := 0) E dX12_holds_242 (by decide) ?_
                  obtain ⟨c18, hf⟩ := kO_e hf
                  obtain ⟨SM_19, e_SM_19, hf⟩ := kL_e hf
                  refine sM_31 (pc := 243) (i := 0) (S1 := SM_19) E rfl c18 (by decide) e_SM_19 dX12_holds_243 ?_
                  show zJ p l e rm_X12_holds s m args below meth c (zQ G ct (some (.int r0)) [wM aM ct OM] A below args s 0 0) A G 9 0 0 [wM aM ct SM_19] [(8, .int v13), (7, .int r10), (6, .int (SM.2.1 25 (Int32.toNatClampNeg x5))), (0, .ref (aM 200)), (1, .int x1), (2, .int x2), (3, .int x3), (4, .int x4), (5, .int x5)] 244 []
                  obtain ⟨v20, e_v20, hf⟩ := kL_e hf
                  refine z_iinc (pc := 244) (k0 := 7) (v := v20) (lv' := [(4, .int v20), (8, .int v13), (7, .int r10), (6, .int (SM.2.1 25 (Int32.toNatClampNeg x5))), (0, .ref (aM 200)), (1, .int x1), (2, .int x2), (3, .int x3), (5, .int x5)]) E dX12_holds_244 rfl e_v20 (by decide) rfl ?_
                  obtain ⟨v21, e_v21, hf⟩ := kL_e hf
                  refine z_iinc (pc := 247) (k0 := 8) (v := v21) (lv' := [(5, .int v21), (4, .int v20), (8, .int v13), (7, .int r10), (6, .int (SM.2.1 25 (Int32.toNatClampNeg x5))), (0, .ref (aM 200)), (1, .int x1), (2, .int x2), (3, .int x3)]) E dX12_holds_247 rfl e_v21 (by decide) rfl ?_
                  refine z_goto (pc := 250) (tgt := 11) E dX12_holds_250 (by decide) ?_
                  refine z_sub [5, 6, 7, 8, 1, 0] (lv' := [(0, .ref (aM 200)), (1, .int x1), (2, .int x2), (3, .int x3), (4, .int v20), (5, .int v21)]) rfl ?_
                  exact ih11 SM_19 x1 x2 x3 v20 v21 hf
                · have hf := kB_f hf c17
                  refine z_iconst (pc := 238) (v := 1) E dX12_holds_238 (by decide) ?_
                  refine z_goto (pc := 239) (tgt := 243) E dX12_holds_239 (by decide) ?_
                  obtain ⟨c22, hf⟩ := kO_e hf
                  obtain ⟨SM_23, e_SM_23, hf⟩ := kL_e hf
                  refine sM_31 (pc := 243) (i := 0) (S1 := SM_23) E rfl c22 (by decide) e_SM_23 dX12_holds_243 ?_
                  show zJ p l e rm_X12_holds s m args below meth c (zQ G ct (some (.int r0)) [wM aM ct OM] A below args s 0 0) A G 9 0 0 [wM aM ct SM_23] [(8, .int v13), (7, .int r10), (6, .int (SM.2.1 25 (Int32.toNatClampNeg x5))), (0, .ref (aM 200)), (1, .int x1), (2, .int x2), (3, .int x3), (4, .int x4), (5, .int x5)] 244 []
                  obtain ⟨v24, e_v24, hf⟩ := kL_e hf
                  refine z_iinc (pc := 244) (k0 := 7) (v := v24) (lv' := [(4, .int v24), (8, .int v13), (7, .int r10), (6, .int (SM.2.1 25 (Int32.toNatClampNeg x5))), (0, .ref (aM 200)), (1, .int x1), (2, .int x2), (3, .int x3), (5, .int x5)]) E dX12_holds_244 rfl e_v24 (by decide) rfl ?_
                  obtain ⟨v25, e_v25, hf⟩ := kL_e hf
                  refine z_iinc (pc := 247) (k0 := 8) (v := v25) (lv' := [(5, .int v25), (4, .int v24), (8, .int v13), (7, .int r10), (6, .int (SM.2.1 25 (Int32.toNatClampNeg x5))), (0, .ref (aM 200)), (1, .int x1), (2, .int x2), (3, .int x3)]) E dX12_holds_247 rfl e_v25 (by decide) rfl ?_
                  refine z_goto (pc := 250) (tgt := 11) E dX12_holds_250 (by decide) ?_
                  refine z_sub [5, 6, 7, 8, 1, 0] (lv' := [(0, .ref (aM 200)), (1, .int x1), (2, .int x2), (3, .int x3), (4, .int v24), (5, .int v25)]) rfl ?_
                  exact ih11 SM_23 x1 x2 x3 v24 v25 hf
              · have hf := kB_t hf c15
                refine z_iload (pc := 210) (k0 := 1) E dX12_holds_210 rfl ?_
                refine z_iload (pc := 212) (k0 := 2) E dX12_holds_212 rfl ?_
                refine z_bipush (pc := 214) (v := 100) E dX12_holds_214 (by decide) ?_
                obtain ⟨v26, e_v26, hf⟩ := kL_e hf
                refine z_irem (pc := 216) (v := v26) E dX12_holds_216 (by decide) e_v26 ?_
                refine z_icmp_ne (pc := 217) (tgt := 224) E dX12_holds_217 (by decide) (fun c27 => ?_) (fun c27 => ?_)
                · have hf := kB_f hf c27
                  refine z_iconst (pc := 224) (v := 0) E dX12_holds_224 (by decide) ?_
                  refine z_goto (pc := 225) (tgt := 243) E dX12_holds_225 (by decide) ?_
                  obtain ⟨c28, hf⟩ := kO_e hf
                  obtain ⟨SM_29, e_SM_29, hf⟩ := kL_e hf
                  refine sM_31 (pc := 243) (i := 0) (S1 := SM_29) E rfl c28 (by decide) e_SM_29 dX12_holds_243 ?_
                  show zJ p l e rm_X12_holds s m args below meth c (zQ G ct (some (.int r0)) [wM aM ct OM] A below args s 0 0) A G 9 0 0 [wM aM ct SM_29] [(8, .int v13), (7, .int r10), (6, .int (SM.2.1 25 (Int32.toNatClampNeg x5))), (0, .ref (aM 200)), (1, .int x1), (2, .int x2), (3, .int x3), (4, .int x4), (5, .int x5)] 244 []
                  obtain ⟨v30, e_v30, hf⟩ := kL_e hf
                  refine z_iinc (pc := 244) (k0 := 7) (v := v30) (lv' := [(4, .int v30), (8, .int v13), (7, .int r10), (6, .int (SM.2.1 25 (Int32.toNatClampNeg x5))), (0, .ref (aM 200)), (1, .int x1), (2, .int x2), (3, .int x3), (5, .int x5)]) E dX12_holds_244 rfl e_v30 (by decide) rfl ?_
                  obtain ⟨v31, e_v31, hf⟩ := kL_e hf
                  refine z_iinc (pc := 247) (k0 := 8) (v := v31) (lv' := [(5, .int v31), (4, .int v30), (8, .int v13), (7, .int r10), (6, .int (SM.2.1 25 (Int32.toNatClampNeg x5))), (0, .ref (aM 200)), (1, .int x1), (2, .int x2), (3, .int x3)]) E dX12_holds_247 rfl e_v31 (by decide) rfl ?_
                  refine z_goto (pc := 250) (tgt := 11) E dX12_holds_250 (by decide) ?_
                  refine z_sub [5, 6, 7, 8, 1, 0] (lv' := [(0, .ref (aM 200)), (1, .int x1), (2, .int x2), (3, .int x3), (4, .int v30), (5, .int v31)]) rfl ?_
                  exact ih11 SM_29 x1 x2 x3 v30 v31 hf
                · have hf := kB_t hf c27
                  refine z_iconst (pc := 220) (v := 1) E dX12_holds_220 (by decide) ?_
                  refine z_goto (pc := 221) (tgt := 243) E dX12_holds_221 (by decide) ?_
                  obtain ⟨c32, hf⟩ := kO_e hf
                  obtain ⟨SM_33, e_SM_33, hf⟩ := kL_e hf
                  refine sM_31 (pc := 243) (i := 0) (S1 := SM_33) E rfl c32 (by decide) e_SM_33 dX12_holds_243 ?_
                  show zJ p l e rm_X12_holds s m args below meth c (zQ G ct (some (.int r0)) [wM aM ct OM] A below args s 0 0) A G 9 0 0 [wM aM ct SM_33] [(8, .int v13), (7, .int r10), (6, .int (SM.2.1 25 (Int32.toNatClampNeg x5))), (0, .ref (aM 200)), (1, .int x1), (2, .int x2), (3, .int x3), (4, .int x4), (5, .int x5)] 244 []
                  obtain ⟨v34, e_v34, hf⟩ := kL_e hf
                  refine z_iinc (pc := 244) (k0 := 7) (v := v34) (lv' := [(4, .int v34), (8, .int v13), (7, .int r10), (6, .int (SM.2.1 25 (Int32.toNatClampNeg x5))), (0, .ref (aM 200)), (1, .int x1), (2, .int x2), (3, .int x3), (5, .int x5)]) E dX12_holds_244 rfl e_v34 (by decide) rfl ?_
                  obtain ⟨v35, e_v35, hf⟩ := kL_e hf
                  refine z_iinc (pc := 247) (k0 := 8) (v := v35) (lv' := [(5, .int v35), (4, .int v34), (8, .int v13), (7, .int r10), (6, .int (SM.2.1 25 (Int32.toNatClampNeg x5))), (0, .ref (aM 200)), (1, .int x1), (2, .int x2), (3, .int x3)]) E dX12_holds_247 rfl e_v35 (by decide) rfl ?_
                  refine z_goto (pc := 250) (tgt := 11) E dX12_holds_250 (by decide) ?_
                  refine z_sub [5, 6, 7, 8, 1, 0] (lv' := [(0, .ref (aM 200)), (1, .int x1), (2, .int x2), (3, .int x3), (4, .int v34), (5, .int v35)]) rfl ?_
                  exact ih11 SM_33 x1 x2 x3 v34 v35 hf
            · have hf := kB_t hf c14
              refine z_iload (pc := 186) (k0 := 1) E dX12_holds_186 rfl ?_
              refine z_iload (pc := 188) (k0 := 2) E dX12_holds_188 rfl ?_
              refine z_bipush (pc := 190) (v := 100) E dX12_holds_190 (by decide) ?_
              obtain ⟨v36, e_v36, hf⟩ := kL_e hf
              refine z_irem (pc := 192) (v := v36) E dX12_holds_192 (by decide) e_v36 ?_
              refine z_icmp_ge (pc := 193) (tgt := 200) E dX12_holds_193 (by decide) (fun c37 => ?_) (fun c37 => ?_)
              · have hf := kB_t hf c37
                refine z_iconst (pc := 200) (v := 0) E dX12_holds_200 (by decide) ?_
                refine z_goto (pc := 201) (tgt := 243) E dX12_holds_201 (by decide) ?_
                obtain ⟨c38, hf⟩ := kO_e hf
                obtain ⟨SM_39, e_SM_39, hf⟩ := kL_e hf
                refine sM_31 (pc := 243) (i := 0) (S1 := SM_39) E rfl c38 (by decide) e_SM_39 dX12_holds_243 ?_
                show zJ p l e rm_X12_holds s m args below meth c (zQ G ct (some (.int r0)) [wM aM ct OM] A below args s 0 0) A G 9 0 0 [wM aM ct SM_39] [(8, .int v13), (7, .int r10), (6, .int (SM.2.1 25 (Int32.toNatClampNeg x5))), (0, .ref (aM 200)), (1, .int x1), (2, .int x2), (3, .int x3), (4, .int x4), (5, .int x5)] 244 []
                obtain ⟨v40, e_v40, hf⟩ := kL_e hf
                refine z_iinc (pc := 244) (k0 := 7) (v := v40) (lv' := [(4, .int v40), (8, .int v13), (7, .int r10), (6, .int (SM.2.1 25 (Int32.toNatClampNeg x5))), (0, .ref (aM 200)), (1, .int x1), (2, .int x2), (3, .int x3), (5, .int x5)]) E dX12_holds_244 rfl e_v40 (by decide) rfl ?_
                obtain ⟨v41, e_v41, hf⟩ := kL_e hf
                refine z_iinc (pc := 247) (k0 := 8) (v := v41) (lv' := [(5, .int v41), (4, .int v40), (8, .int v13), (7, .int r10), (6, .int (SM.2.1 25 (Int32.toNatClampNeg x5))), (0, .ref (aM 200)), (1, .int x1), (2, .int x2), (3, .int x3)]) E dX12_holds_247 rfl e_v41 (by decide) rfl ?_
                refine z_goto (pc := 250) (tgt := 11) E dX12_holds_250 (by decide) ?_
                refine z_sub [5, 6, 7, 8, 1, 0] (lv' := [(0, .ref (aM 200)), (1, .int x1), (2, .int x2), (3, .int x3), (4, .int v40), (5, .int v41)]) rfl ?_
                exact ih11 SM_39 x1 x2 x3 v40 v41 hf
              · have hf := kB_f hf c37
                refine z_iconst (pc := 196) (v := 1) E dX12_holds_196 (by decide) ?_
                refine z_goto (pc := 197) (tgt := 243) E dX12_holds_197 (by decide) ?_
                obtain ⟨c42, hf⟩ := kO_e hf
                obtain ⟨SM_43, e_SM_43, hf⟩ := kL_e hf
                refine sM_31 (pc := 243) (i := 0) (S1 := SM_43) E rfl c42 (by decide) e_SM_43 dX12_holds_243 ?_
                show zJ p l e rm_X12_holds s m args below meth c (zQ G ct (some (.int r0)) [wM aM ct OM] A below args s 0 0) A G 9 0 0 [wM aM ct SM_43] [(8, .int v13), (7, .int r10), (6, .int (SM.2.1 25 (Int32.toNatClampNeg x5))), (0, .ref (aM 200)), (1, .int x1), (2, .int x2), (3, .int x3), (4, .int x4), (5, .int x5)] 244 []
                obtain ⟨v44, e_v44, hf⟩ := kL_e hf
                refine z_iinc (pc := 244) (k0 := 7) (v := v44) (lv' := [(4, .int v44), (8, .int v13), (7, .int r10), (6, .int (SM.2.1 25 (Int32.toNatClampNeg x5))), (0, .ref (aM 200)), (1, .int x1), (2, .int x2), (3, .int x3), (5, .int x5)]) E dX12_holds_244 rfl e_v44 (by decide) rfl ?_
                obtain ⟨v45, e_v45, hf⟩ := kL_e hf
                refine z_iinc (pc := 247) (k0 := 8) (v := v45) (lv' := [(5, .int v45), (4, .int v44), (8, .int v13), (7, .int r10), (6, .int (SM.2.1 25 (Int32.toNatClampNeg x5))), (0, .ref (aM 200)), (1, .int x1), (2, .int x2), (3, .int x3)]) E dX12_holds_247 rfl e_v45 (by decide) rfl ?_
                refine z_goto (pc := 250) (tgt := 11) E dX12_holds_250 (by decide) ?_
                refine z_sub [5, 6, 7, 8, 1, 0] (lv' := [(0, .ref (aM 200)), (1, .int x1), (2, .int x2), (3, .int x3), (4, .int v44), (5, .int v45)]) rfl ?_
                exact ih11 SM_43 x1 x2 x3 v44 v45 hf
          · have hf := kB_f hf c8
            obtain ⟨v46, e_v46, hf⟩ := kL_e hf
            refine z_iinc (pc := 72) (k0 := 5) (v := v46) (lv' := [(4, .int v46), (6, .int (SM.2.1 25 (Int32.toNatClampNeg x5))), (0, .ref (aM 200)), (1, .int x1), (2, .int x2), (3, .int x3), (5, .int x5)]) E dX12_holds_72 rfl e_v46 (by decide) rfl ?_
            refine z_aload_n (pc := 75) (k0 := 2) E dX12_holds_75 rfl rfl ?_
            refine gM_31 (pc := 76) (i := 0) E rfl wd_5_2 dX12_holds_76 ?_
            refine z_iload (pc := 79) (k0 := 0) E dX12_holds_79 rfl ?_
            refine z_iconst (pc := 81) (v := 1) E dX12_holds_81 (by decide) ?_
            obtain ⟨v47, e_v47, hf⟩ := kL_e hf
            refine z_isub (pc := 82) (v := v47) E dX12_holds_82 e_v47 ?_
            refine z_iload (pc := 83) (k0 := 1) E dX12_holds_83 rfl ?_
            refine z_bipush (pc := 85) (v := (-38)) E dX12_holds_85 (by decide) ?_
            refine z_icmp_ne (pc := 87) (tgt := 120) E dX12_holds_87 (by decide) (fun c48 => ?_) (fun c48 => ?_)
            · have hf := kB_f hf c48
              refine z_aload_n (pc := 120) (k0 := 2) E dX12_holds_120 rfl rfl ?_
              refine gM_31 (pc := 121) (i := 0) E rfl wd_5_2 dX12_holds_121 ?_
              refine z_iload (pc := 124) (k0 := 0) E dX12_holds_124 rfl ?_
              refine z_iconst (pc := 126) (v := 1) E dX12_holds_126 (by decide) ?_
              obtain ⟨v49, e_v49, hf⟩ := kL_e hf
              refine z_isub (pc := 127) (v := v49) E dX12_holds_127 e_v49 ?_
              obtain ⟨c50, hf⟩ := kO_e hf
              refine lM_31 (pc := 128) (i := 0) E rfl c50 dX12_holds_128 ?_
              refine z_if_ne (pc := 129) (tgt := 142) E dX12_holds_129 (by decide) (fun c51 => ?_) (fun c51 => ?_)
              · have hf := kB_f hf c51
                refine z_iconst (pc := 142) (v := 1) E dX12_holds_142 (by decide) ?_
                refine z_goto (pc := 143) (tgt := 147) E dX12_holds_143 (by decide) ?_
                obtain ⟨c52, hf⟩ := kO_e hf
                obtain ⟨SM_53, e_SM_53, hf⟩ := kL_e hf
                refine sM_31 (pc := 147) (i := 0) (S1 := SM_53) E rfl c52 (by decide) e_SM_53 dX12_holds_147 ?_
                show zJ p l e rm_X12_holds s m args below meth c (zQ G ct (some (.int r0)) [wM aM ct OM] A below args s 0 0) A G 9 0 0 [wM aM ct SM_53] [(4, .int v46), (6, .int (SM.2.1 25 (Int32.toNatClampNeg x5))), (0, .ref (aM 200)), (1, .int x1), (2, .int x2), (3, .int x3), (5, .int x5)] 148 []
                refine z_goto (pc := 148) (tgt := 247) E dX12_holds_148 (by decide) ?_
                obtain ⟨v54, e_v54, hf⟩ := kL_e hf
                refine z_iinc (pc := 247) (k0 := 6) (v := v54) (lv' := [(5, .int v54), (4, .int v46), (6, .int (SM.2.1 25 (Int32.toNatClampNeg x5))), (0, .ref (aM 200)), (1, .int x1), (2, .int x2), (3, .int x3)]) E dX12_holds_247 rfl e_v54 (by decide) rfl ?_
                refine z_goto (pc := 250) (tgt := 11) E dX12_holds_250 (by decide) ?_
                refine z_sub [3, 4, 5, 6, 1, 0] (lv' := [(0, .ref (aM 200)), (1, .int x1), (2, .int x2), (3, .int x3), (4, .int v46), (5, .int v54)]) rfl ?_
                exact ih11 SM_53 x1 x2 x3 v46 v54 hf
              · have hf := kB_t hf c51
                refine z_aload_n (pc := 132) (k0 := 2) E dX12_holds_132 rfl rfl ?_
                refine gM_31 (pc := 133) (i := 0) E rfl wd_5_2 dX12_holds_133 ?_
                refine z_iload (pc := 136) (k0 := 0) E dX12_holds_136 rfl ?_
                obtain ⟨c55, hf⟩ := kO_e hf
                refine lM_31 (pc := 138) (i := 0) E rfl c55 dX12_holds_138 ?_
                refine z_if_eq (pc := 139) (tgt := 146) E dX12_holds_139 (by decide) (fun c56 => ?_) (fun c56 => ?_)
                · have hf := kB_t hf c56
                  refine z_iconst (pc := 146) (v := 0) E dX12_holds_146 (by decide) ?_
                  obtain ⟨c57, hf⟩ := kO_e hf
                  obtain ⟨SM_58, e_SM_58, hf⟩ := kL_e hf
                  refine sM_31 (pc := 147) (i := 0) (S1 := SM_58) E rfl c57 (by decide) e_SM_58 dX12_holds_147 ?_
                  show zJ p l e rm_X12_holds s m args below meth c (zQ G ct (some (.int r0)) [wM aM ct OM] A below args s 0 0) A G 9 0 0 [wM aM ct SM_58] [(4, .int v46), (6, .int (SM.2.1 25 (Int32.toNatClampNeg x5))), (0, .ref (aM 200)), (1, .int x1), (2, .int x2), (3, .int x3), (5, .int x5)] 148 []
                  refine z_goto (pc := 148) (tgt := 247) E dX12_holds_148 (by decide) ?_
                  obtain ⟨v59, e_v59, hf⟩ := kL_e hf
                  refine z_iinc (pc := 247) (k0 := 6) (v := v59) (lv' := [(5, .int v59), (4, .int v46), (6, .int (SM.2.1 25 (Int32.toNatClampNeg x5))), (0, .ref (aM 200)), (1, .int x1), (2, .int x2), (3, .int x3)]) E dX12_holds_247 rfl e_v59 (by decide) rfl ?_
                  refine z_goto (pc := 250) (tgt := 11) E dX12_holds_250 (by decide) ?_
                  refine z_sub [3, 4, 5, 6, 1, 0] (lv' := [(0, .ref (aM 200)), (1, .int x1), (2, .int x2), (3, .int x3), (4, .int v46), (5, .int v59)]) rfl ?_
                  exact ih11 SM_58 x1 x2 x3 v46 v59 hf
                · have hf := kB_f hf c56
                  refine z_iconst (pc := 142) (v := 1) E dX12_holds_142 (by decide) ?_
                  refine z_goto (pc := 143) (tgt := 147) E dX12_holds_143 (by decide) ?_
                  obtain ⟨c60, hf⟩ := kO_e hf
                  obtain ⟨SM_61, e_SM_61, hf⟩ := kL_e hf
                  refine sM_31 (pc := 147) (i := 0) (S1 := SM_61) E rfl c60 (by decide) e_SM_61 dX12_holds_147 ?_
                  show zJ p l e rm_X12_holds s m args below meth c (zQ G ct (some (.int r0)) [wM aM ct OM] A below args s 0 0) A G 9 0 0 [wM aM ct SM_61] [(4, .int v46), (6, .int (SM.2.1 25 (Int32.toNatClampNeg x5))), (0, .ref (aM 200)), (1, .int x1), (2, .int x2), (3, .int x3), (5, .int x5)] 148 []
                  refine z_goto (pc := 148) (tgt := 247) E dX12_holds_148 (by decide) ?_
                  obtain ⟨v62, e_v62, hf⟩ := kL_e hf
                  refine z_iinc (pc := 247) (k0 := 6) (v := v62) (lv' := [(5, .int v62), (4, .int v46), (6, .int (SM.2.1 25 (Int32.toNatClampNeg x5))), (0, .ref (aM 200)), (1, .int x1), (2, .int x2), (3, .int x3)]) E dX12_holds_247 rfl e_v62 (by decide) rfl ?_
                  refine z_goto (pc := 250) (tgt := 11) E dX12_holds_250 (by decide) ?_
                  refine z_sub [3, 4, 5, 6, 1, 0] (lv' := [(0, .ref (aM 200)), (1, .int x1), (2, .int x2), (3, .int x3), (4, .int v46), (5, .int v62)]) rfl ?_
                  exact ih11 SM_61 x1 x2 x3 v46 v62 hf
            · have hf := kB_t hf c48
              refine z_aload_n (pc := 90) (k0 := 2) E dX12_holds_90 rfl rfl ?_
              refine gM_31 (pc := 91) (i := 0) E rfl wd_5_2 dX12_holds_91 ?_
              refine z_iload (pc := 94) (k0 := 0) E dX12_holds_94 rfl ?_
              refine z_iconst (pc := 96) (v := 1) E dX12_holds_96 (by decide) ?_
              obtain ⟨v63, e_v63, hf⟩ := kL_e hf
              refine z_isub (pc := 97) (v := v63) E dX12_holds_97 e_v63 ?_
              obtain ⟨c64, hf⟩ := kO_e hf
              refine lM_31 (pc := 98) (i := 0) E rfl c64 dX12_holds_98 ?_
              refine z_if_eq (pc := 99) (tgt := 116) E dX12_holds_99 (by decide) (fun c65 => ?_) (fun c65 => ?_)
              · have hf := kB_t hf c65
                refine z_iconst (pc := 116) (v := 0) E dX12_holds_116 (by decide) ?_
                refine z_goto (pc := 117) (tgt := 147) E dX12_holds_117 (by decide) ?_
                obtain ⟨c66, hf⟩ := kO_e hf
                obtain ⟨SM_67, e_SM_67, hf⟩ := kL_e hf
                refine sM_31 (pc := 147) (i := 0) (S1 := SM_67) E rfl c66 (by decide) e_SM_67 dX12_holds_147 ?_
                show zJ p l e rm_X12_holds s m args below meth c (zQ G ct (some (.int r0)) [wM aM ct OM] A below args s 0 0) A G 9 0 0 [wM aM ct SM_67] [(4, .int v46), (6, .int (SM.2.1 25 (Int32.toNatClampNeg x5))), (0, .ref (aM 200)), (1, .int x1), (2, .int x2), (3, .int x3), (5, .int x5)] 148 []
                refine z_goto (pc := 148) (tgt := 247) E dX12_holds_148 (by decide) ?_
                obtain ⟨v68, e_v68, hf⟩ := kL_e hf
                refine z_iinc (pc := 247) (k0 := 6) (v := v68) (lv' := [(5, .int v68), (4, .int v46), (6, .int (SM.2.1 25 (Int32.toNatClampNeg x5))), (0, .ref (aM 200)), (1, .int x1), (2, .int x2), (3, .int x3)]) E dX12_holds_247 rfl e_v68 (by decide) rfl ?_
                refine z_goto (pc := 250) (tgt := 11) E dX12_holds_250 (by decide) ?_
                refine z_sub [3, 4, 5, 6, 1, 0] (lv' := [(0, .ref (aM 200)), (1, .int x1), (2, .int x2), (3, .int x3), (4, .int v46), (5, .int v68)]) rfl ?_
                exact ih11 SM_67 x1 x2 x3 v46 v68 hf
              · have hf := kB_f hf c65
                refine z_aload_n (pc := 102) (k0 := 2) E dX12_holds_102 rfl rfl ?_
                refine gM_31 (pc := 103) (i := 0) E rfl wd_5_2 dX12_holds_103 ?_
                refine z_iload (pc := 106) (k0 := 0) E dX12_holds_106 rfl ?_
                obtain ⟨c69, hf⟩ := kO_e hf
                refine lM_31 (pc := 108) (i := 0) E rfl c69 dX12_holds_108 ?_
                refine z_if_eq (pc := 109) (tgt := 116) E dX12_holds_109 (by decide) (fun c70 => ?_) (fun c70 => ?_)
                · have hf := kB_t hf c70
                  refine z_iconst (pc := 116) (v := 0) E dX12_holds_116 (by decide) ?_
                  refine z_goto (pc := 117) (tgt := 147) E dX12_holds_117 (by decide) ?_
                  obtain ⟨c71, hf⟩ := kO_e hf
                  obtain ⟨SM_72, e_SM_72, hf⟩ := kL_e hf
                  refine sM_31 (pc := 147) (i := 0) (S1 := SM_72) E rfl c71 (by decide) e_SM_72 dX12_holds_147 ?_
                  show zJ p l e rm_X12_holds s m args below meth c (zQ G ct (some (.int r0)) [wM aM ct OM] A below args s 0 0) A G 9 0 0 [wM aM ct SM_72] [(4, .int v46), (6, .int (SM.2.1 25 (Int32.toNatClampNeg x5))), (0, .ref (aM 200)), (1, .int x1), (2, .int x2), (3, .int x3), (5, .int x5)] 148 []
                  refine z_goto (pc := 148) (tgt := 247) E dX12_holds_148 (by decide) ?_
                  obtain ⟨v73, e_v73, hf⟩ := kL_e hf
                  refine z_iinc (pc := 247) (k0 := 6) (v := v73) (lv' := [(5, .int v73), (4, .int v46), (6, .int (SM.2.1 25 (Int32.toNatClampNeg x5))), (0, .ref (aM 200)), (1, .int x1), (2, .int x2), (3, .int x3)]) E dX12_holds_247 rfl e_v73 (by decide) rfl ?_
                  refine z_goto (pc := 250) (tgt := 11) E dX12_holds_250 (by decide) ?_
                  refine z_sub [3, 4, 5, 6, 1, 0] (lv' := [(0, .ref (aM 200)), (1, .int x1), (2, .int x2), (3, .int x3), (4, .int v46), (5, .int v73)]) rfl ?_
                  exact ih11 SM_72 x1 x2 x3 v46 v73 hf
                · have hf := kB_f hf c70
                  refine z_iconst (pc := 112) (v := 1) E dX12_holds_112 (by decide) ?_
                  refine z_goto (pc := 113) (tgt := 147) E dX12_holds_113 (by decide) ?_
                  obtain ⟨c74, hf⟩ := kO_e hf
                  obtain ⟨SM_75, e_SM_75, hf⟩ := kL_e hf
                  refine sM_31 (pc := 147) (i := 0) (S1 := SM_75) E rfl c74 (by decide) e_SM_75 dX12_holds_147 ?_
                  show zJ p l e rm_X12_holds s m args below meth c (zQ G ct (some (.int r0)) [wM aM ct OM] A below args s 0 0) A G 9 0 0 [wM aM ct SM_75] [(4, .int v46), (6, .int (SM.2.1 25 (Int32.toNatClampNeg x5))), (0, .ref (aM 200)), (1, .int x1), (2, .int x2), (3, .int x3), (5, .int x5)] 148 []
                  refine z_goto (pc := 148) (tgt := 247) E dX12_holds_148 (by decide) ?_
                  obtain ⟨v76, e_v76, hf⟩ := kL_e hf
                  refine z_iinc (pc := 247) (k0 := 6) (v := v76) (lv' := [(5, .int v76), (4, .int v46), (6, .int (SM.2.1 25 (Int32.toNatClampNeg x5))), (0, .ref (aM 200)), (1, .int x1), (2, .int x2), (3, .int x3)]) E dX12_holds_247 rfl e_v76 (by decide) rfl ?_
                  refine z_goto (pc := 250) (tgt := 11) E dX12_holds_250 (by decide) ?_
                  refine z_sub [3, 4, 5, 6, 1, 0] (lv' := [(0, .ref (aM 200)), (1, .int x1), (2, .int x2), (3, .int x3), (4, .int v46), (5, .int v76)]) rfl ?_
                  exact ih11 SM_75 x1 x2 x3 v46 v76 hf
        · have hf := kB_t hf c7
          refine z_aload_n (pc := 38) (k0 := 1) E dX12_holds_38 rfl rfl ?_
          refine gM_31 (pc := 39) (i := 0) E rfl wd_5_2 dX12_holds_39 ?_
          refine z_iload (pc := 42) (k0 := 5) E dX12_holds_42 rfl ?_
          refine z_iconst (pc := 44) (v := 1) E dX12_holds_44 (by decide) ?_
          obtain ⟨v77, e_v77, hf⟩ := kL_e hf
          refine z_isub (pc := 45) (v := v77) E dX12_holds_45 e_v77 ?_
          refine z_aload_n (pc := 46) (k0 := 1) E dX12_holds_46 rfl rfl ?_
          refine gM_31 (pc := 47) (i := 0) E rfl wd_5_2 dX12_holds_47 ?_
          refine z_iload (pc := 50) (k0 := 5) E dX12_holds_50 rfl ?_
          refine z_iconst (pc := 52) (v := 1) E dX12_holds_52 (by decide) ?_
          obtain ⟨v78, e_v78, hf⟩ := kL_e hf
          refine z_isub (pc := 53) (v := v78) E dX12_holds_53 e_v78 ?_
          obtain ⟨c79, hf⟩ := kO_e hf
          refine lM_31 (pc := 54) (i := 0) E rfl c79 dX12_holds_54 ?_
          refine z_if_ne (pc := 55) (tgt := 62) E dX12_holds_55 (by decide) (fun c80 => ?_) (fun c80 => ?_)
          · have hf := kB_f hf c80
            refine z_iconst (pc := 62) (v := 0) E dX12_holds_62 (by decide) ?_
            obtain ⟨c81, hf⟩ := kO_e hf
            obtain ⟨SM_82, e_SM_82, hf⟩ := kL_e hf
            refine sM_31 (pc := 63) (i := 0) (S1 := SM_82) E rfl c81 (by decide) e_SM_82 dX12_holds_63 ?_
            show zJ p l e rm_X12_holds s m args below meth c (zQ G ct (some (.int r0)) [wM aM ct OM] A below args s 0 0) A G 9 0 0 [wM aM ct SM_82] [(6, .int (SM.2.1 25 (Int32.toNatClampNeg x5))), (0, .ref (aM 200)), (1, .int x1), (2, .int x2), (3, .int x3), (4, .int x4), (5, .int x5)] 64 []
            refine z_goto (pc := 64) (tgt := 247) E dX12_holds_64 (by decide) ?_
            obtain ⟨v83, e_v83, hf⟩ := kL_e hf
            refine z_iinc (pc := 247) (k0 := 6) (v := v83) (lv' := [(5, .int v83), (6, .int (SM.2.1 25 (Int32.toNatClampNeg x5))), (0, .ref (aM 200)), (1, .int x1), (2, .int x2), (3, .int x3), (4, .int x4)]) E dX12_holds_247 rfl e_v83 (by decide) rfl ?_
            refine z_goto (pc := 250) (tgt := 11) E dX12_holds_250 (by decide) ?_
            refine z_sub [2, 3, 4, 5, 6, 0] (lv' := [(0, .ref (aM 200)), (1, .int x1), (2, .int x2), (3, .int x3), (4, .int x4), (5, .int v83)]) rfl ?_
            exact ih11 SM_82 x1 x2 x3 x4 v83 hf
          · have hf := kB_t hf c80
            refine z_iconst (pc := 58) (v := 1) E dX12_holds_58 (by decide) ?_
            refine z_goto (pc := 59) (tgt := 63) E dX12_holds_59 (by decide) ?_
            obtain ⟨c84, hf⟩ := kO_e hf
            obtain ⟨SM_85, e_SM_85, hf⟩ := kL_e hf
            refine sM_31 (pc := 63) (i := 0) (S1 := SM_85) E rfl c84 (by decide) e_SM_85 dX12_holds_63 ?_
            show zJ p l e rm_X12_holds s m args below meth c (zQ G ct (some (.int r0)) [wM aM ct OM] A below args s 0 0) A G 9 0 0 [wM aM ct SM_85] [(6, .int (SM.2.1 25 (Int32.toNatClampNeg x5))), (0, .ref (aM 200)), (1, .int x1), (2, .int x2), (3, .int x3), (4, .int x4), (5, .int x5)] 64 []
            refine z_goto (pc := 64) (tgt := 247) E dX12_holds_64 (by decide) ?_
            obtain ⟨v86, e_v86, hf⟩ := kL_e hf
            refine z_iinc (pc := 247) (k0 := 6) (v := v86) (lv' := [(5, .int v86), (6, .int (SM.2.1 25 (Int32.toNatClampNeg x5))), (0, .ref (aM 200)), (1, .int x1), (2, .int x2), (3, .int x3), (4, .int x4)]) E dX12_holds_247 rfl e_v86 (by decide) rfl ?_
            refine z_goto (pc := 250) (tgt := 11) E dX12_holds_250 (by decide) ?_
            refine z_sub [2, 3, 4, 5, 6, 0] (lv' := [(0, .ref (aM 200)), (1, .int x1), (2, .int x2), (3, .int x3), (4, .int x4), (5, .int v86)]) rfl ?_
            exact ih11 SM_85 x1 x2 x3 x4 v86 hf
  unfold f_X12_holds at hf
  refine z_iconst (pc := 0) (v := 0) E dX12_holds_0 (by decide) ?_
  refine z_istore (pc := 1) (lv' := [(4, .int 0), (0, .ref (aM 200)), (1, .int a1), (2, .int a2), (3, .int a3)]) E dX12_holds_1 (by decide) rfl ?_
  refine z_aload_n (pc := 3) (k0 := 1) E dX12_holds_3 rfl rfl ?_
  refine gM_23 (pc := 4) (i := 0) E rfl wd_4_18 dX12_holds_4 ?_
  refine z_iload_n (pc := 7) (k0 := 2) E dX12_holds_7 rfl rfl ?_
  obtain ⟨c1, hf⟩ := kO_e hf
  refine lM_23 (pc := 8) (i := 0) E rfl c1 dX12_holds_8 ?_
  refine z_istore (pc := 9) (lv' := [(5, .int (SM.2.1 23 (Int32.toNatClampNeg a1))), (4, .int 0), (0, .ref (aM 200)), (1, .int a1), (2, .int a2), (3, .int a3)]) E dX12_holds_9 (by decide) rfl ?_
  refine z_sub [2, 3, 4, 5, 1, 0] (lv' := [(0, .ref (aM 200)), (1, .int a1), (2, .int a2), (3, .int a3), (4, .int 0), (5, .int (SM.2.1 23 (Int32.toNatClampNeg a1)))]) rfl ?_
  exact L11 N SM a1 a2 a3 0 (SM.2.1 23 (Int32.toNatClampNeg a1)) hf
noncomputable def f_X12_sumOf_l12 (N : Nat) : Nat → zMS → Int32 → Int32 → Int32 → Int32 → Int32 → Int32 → Int32 → Option (Int32 × zMS) := fun n => Nat.rec (motive := fun _ => zMS → Int32 → Int32 → Int32 → Int32 → Int32 → Int32 → Int32 → Option (Int32 × zMS)) (fun _ _ _ _ _ _ _ _ => none) (fun _ ih SM x1 x2 x3 x4 x5 x6 x7 => kC (f_X12_behind SM) (fun r3 => kB (r3 ≤ x7) (kB (x6 = 0) (some (x4, SM)) (some (x5, SM))) (kO (¬ (x7 < 0 ∨ 60 ≤ Int32.toNatClampNeg x7)) (kB ((SM.2.1 21 (Int32.toNatClampNeg x7)) = x1) (kD (f_X12_holds N SM x7 x2 x3) (fun r9 SM_10 => kB (r9 = 0) (kL (x5 + 0) (fun v13 => kL (x7 + 1) (fun v14 => ih SM_10 x1 x2 x3 x4 v13 1 v14))) (kO (¬ (x7 < 0 ∨ 60 ≤ Int32.toNatClampNeg x7)) (kL (x5 + (SM_10.2.1 22 (Int32.toNatClampNeg x7))) (fun v16 => kL (x7 + 1) (fun v17 => ih SM_10 x1 x2 x3 x4 v16 1 v17)))))) (kL (x7 + 1) (fun v18 => ih SM x1 x2 x3 x4 x5 x6 v18)))))) n
theorem f_X12_sumOf_l12_z (N : Nat) (SM : zMS) (x1 : Int32) (x2 : Int32) (x3 : Int32) (x4 : Int32) (x5 : Int32) (x6 : Int32) (x7 : Int32) : f_X12_sumOf_l12 N 0 SM x1 x2 x3 x4 x5 x6 x7 = none := rfl
theorem f_X12_sumOf_l12_s (N : Nat) (n : Nat) (SM : zMS) (x1 : Int32) (x2 : Int32) (x3 : Int32) (x4 : Int32) (x5 : Int32) (x6 : Int32) (x7 : Int32) : f_X12_sumOf_l12 N (n + 1) SM x1 x2 x3 x4 x5 x6 x7 = kC (f_X12_behind SM) (fun r3 => kB (r3 ≤ x7) (kB (x6 = 0) (some (x4, SM)) (some (x5, SM))) (kO (¬ (x7 < 0 ∨ 60 ≤ Int32.toNatClampNeg x7)) (kB ((SM.2.1 21 (Int32.toNatClampNeg x7)) = x1) (kD (f_X12_holds N SM x7 x2 x3) (fun r9 SM_10 => kB (r9 = 0) (kL (x5 + 0) (fun v13 => kL (x7 + 1) (fun v14 => (f_X12_sumOf_l12 N n) SM_10 x1 x2 x3 x4 v13 1 v14))) (kO (¬ (x7 < 0 ∨ 60 ≤ Int32.toNatClampNeg x7)) (kL (x5 + (SM_10.2.1 22 (Int32.toNatClampNeg x7))) (fun v16 => kL (x7 + 1) (fun v17 => (f_X12_sumOf_l12 N n) SM_10 x1 x2 x3 x4 v16 1 v17)))))) (kL (x7 + 1) (fun v18 => (f_X12_sumOf_l12 N n) SM x1 x2 x3 x4 x5 x6 v18))))) := rfl
noncomputable def f_X12_sumOf (N : Nat) (SM : zMS) (a1 : Int32) (a2 : Int32) (a3 : Int32) (a4 : Int32) : Option (Int32 × zMS) := kC (f_X12_begin SM) (fun r1 => f_X12_sumOf_l12 N N SM a1 a2 a3 a4 0 0 r1)
theorem wv_X12_sumOf : zWV RX12 yX12_sumOf cX12_sumOf 8 (some .int) 4 := ⟨wd_16_18, wd_16_19, wd_1_5, wd_16_20, by decide +kernel⟩
def rm_X12_sumOf : Room := { frames := 2, cells := 0, slots := 0, locals := 51 }
set_option maxHeartbeats 4000000 in
set_option maxRecDepth 100000 in
theorem c_X12_sumOf {l : Launch} {G : va_G} {ct : Nat → ClassId} {aM : Nat → Nat} {N : Nat} {SM : zMS} {a1 : Int32} {a2 : Int32} {a3 : Int32} {a4 : Int32} {r0 : Int32} {OM : zMS} (hf : f_X12_sumOf N SM a1 a2 a3 a4 = some (r0, OM)) : zC l yX12_sumOf cX12_sumOf 8 (some .int) rm_X12_sumOf G ct [.ref (aM 200), .int a1, .int a2, .int a3, .int a4] [wM aM ct SM] [wM aM ct OM] (some (.int r0)) 0 0 := by
  refine z_enter (own := RX12) (lv := [(0, .ref (aM 200)), (1, .int a1), (2, .int a2), (3, .int a3), (4, .int a4)]) (by decide) rfl (Nat.le_of_ble_eq_true rfl) rfl ?_
  intro p e s m args below meth c A E hr hnm
  have L12 : ∀ (n12 : Nat) (SM : zMS) (x1 : Int32) (x2 : Int32) (x3 : Int32) (x4 : Int32) (x5 : Int32) (x6 : Int32) (x7 : Int32), f_X12_sumOf_l12 N n12 SM x1 x2 x3 x4 x5 x6 x7 = some (r0, OM) → zJ p l e rm_X12_sumOf s m args below meth c (zQ G ct (some (.int r0)) [wM aM ct OM] A below args s 0 0) A G 8 0 0 [wM aM ct SM] [(0, .ref (aM 200)), (1, .int x1), (2, .int x2), (3, .int x3), (4, .int x4), (5, .int x5), (6, .int x6), (7, .int x7)] 12 [] := by
    intro n12
    induction n12 with
    | zero =>
      intro SM x1 x2 x3 x4 x5 x6 x7 hf
      rw [f_X12_sumOf_l12_z] at hf
      cases hf
    | succ n12 ih12 =>
      intro SM x1 x2 x3 x4 x5 x6 x7 hf
      rw [f_X12_sumOf_l12_s] at hf
      refine z_iload (pc := 12) (k0 := 7) E dX12_sumOf_12 rfl ?_
      refine z_aload_n (pc := 14) (k0 := 0) E dX12_sumOf_14 rfl rfl ?_
      obtain ⟨r3, h4, hf⟩ := kC_e hf
      refine z_callV0 (pc := 15) (is := [0]) (n := 0) (As := []) (st := [.int x7]) (st' := [.int r3, .int x7]) (C2 := [wM aM ct SM]) E (c_X12_behind (l := l) (G := G) (ct := ct) (aM := aM) h4) wv_X12_behind wd_16_13 ⟨Nat.le_of_ble_eq_true rfl, Nat.le_of_ble_eq_true rfl, Nat.le_of_ble_eq_true rfl, Nat.le_of_ble_eq_true rfl⟩ rfl rfl rfl (by decide) rfl rfl (zrM (j := 0) rfl) rfl (Nat.le_of_ble_eq_true rfl) dX12_sumOf_15 rfl rfl ?_
      refine z_icmp_ge (pc := 18) (tgt := 71) E dX12_sumOf_18 (by decide) (fun c5 => ?_) (fun c5 => ?_)
      · have hf := kB_t hf c5
        refine z_iload (pc := 71) (k0 := 6) E dX12_sumOf_71 rfl ?_
        refine z_if_eq (pc := 73) (tgt := 81) E dX12_sumOf_73 (by decide) (fun c6 => ?_) (fun c6 => ?_)
        · have hf := kB_t hf c6
          refine z_iload (pc := 81) (k0 := 4) E dX12_sumOf_81 rfl ?_
          cases hf
          exact z_iret E hr dX12_sumOf_83
        · have hf := kB_f hf c6
          refine z_iload (pc := 76) (k0 := 5) E dX12_sumOf_76 rfl ?_
          refine z_goto (pc := 78) (tgt := 83) E dX12_sumOf_78 (by decide) ?_
          cases hf
          exact z_iret E hr dX12_sumOf_83
      · have hf := kB_f hf c5
        refine z_aload_n (pc := 21) (k0 := 0) E dX12_sumOf_21 rfl rfl ?_
        refine gM_21 (pc := 22) (i := 0) E rfl wd_4_16 dX12_sumOf_22 ?_
        refine z_iload (pc := 25) (k0 := 7) E dX12_sumOf_25 rfl ?_
        obtain ⟨c7, hf⟩ := kO_e hf
        refine lM_21 (pc := 27) (i := 0) E rfl c7 dX12_sumOf_27 ?_
        refine z_iload_n (pc := 28) (k0 := 1) E dX12_sumOf_28 rfl rfl ?_
        refine z_icmp_eq (pc := 29) (tgt := 35) E dX12_sumOf_29 (by decide) (fun c8 => ?_) (fun c8 => ?_)
        · have hf := kB_t hf c8
          refine z_iconst (pc := 35) (v := 1) E dX12_sumOf_35 (by decide) ?_
          refine z_istore (pc := 36) (lv' := [(6, .int 1), (0, .ref (aM 200)), (1, .int x1), (2, .int x2), (3, .int x3), (4, .int x4), (5, .int x5), (7, .int x7)]) E dX12_sumOf_36 (by decide) rfl ?_
          refine z_iload (pc := 38) (k0 := 6) E dX12_sumOf_38 rfl ?_
          refine z_aload_n (pc := 40) (k0 := 1) E dX12_sumOf_40 rfl rfl ?_
          refine z_iload (pc := 41) (k0 := 7) E dX12_sumOf_41 rfl ?_
          refine z_iload_n (pc := 43) (k0 := 3) E dX12_sumOf_43 rfl rfl ?_
          refine z_iload_n (pc := 44) (k0 := 4) E dX12_sumOf_44 rfl rfl ?_
          obtain ⟨r9, SM_10, h11, hf⟩ := kD_e hf
          refine z_callV0 (pc := 45) (is := [0]) (n := 3) (As := [.int x7, .int x2, .int x3]) (st := [.int x5]) (st' := [.int r9, .int x5]) (C2 := [wM aM ct SM_10]) E (c_X12_holds (l := l) (G := G) (ct := ct) (aM := aM) h11) wv_X12_holds wd_16_21 ⟨Nat.le_of_ble_eq_true rfl, Nat.le_of_ble_eq_true rfl, Nat.le_of_ble_eq_true rfl, Nat.le_of_ble_eq_true rfl⟩ rfl rfl rfl (by decide) rfl rfl (zrM (j := 0) rfl) rfl (Nat.le_of_ble_eq_true rfl) dX12_sumOf_45 rfl rfl ?_
          refine z_if_eq (pc := 48) (tgt := 61) E dX12_sumOf_48 (by decide) (fun c12 => ?_) (fun c12 => ?_)
          · have hf := kB_t hf c12
            refine z_iconst (pc := 61) (v := 0) E dX12_sumOf_61 (by decide) ?_
            obtain ⟨v13, e_v13, hf⟩ := kL_e hf
            refine z_iadd (pc := 62) (v := v13) E dX12_sumOf_62 e_v13 ?_
            refine z_istore (pc := 63) (lv' := [(5, .int v13), (6, .int 1), (0, .ref (aM 200)), (1, .int x1), (2, .int x2), (3, .int x3), (4, .int x4), (7, .int x7)]) E dX12_sumOf_63 (by decide) rfl ?_
            obtain ⟨v14, e_v14, hf⟩ := kL_e hf
            refine z_iinc (pc := 65) (k0 := 7) (v := v14) (lv' := [(7, .int v14), (5, .int v13), (6, .int 1), (0, .ref (aM 200)), (1, .int x1), (2, .int x2), (3, .int x3), (4, .int x4)]) E dX12_sumOf_65 rfl e_v14 (by decide) rfl ?_
            refine z_goto (pc := 68) (tgt := 12) E dX12_sumOf_68 (by decide) ?_
            refine z_sub [3, 4, 5, 6, 7, 1, 2, 0] (lv' := [(0, .ref (aM 200)), (1, .int x1), (2, .int x2), (3, .int x3), (4, .int x4), (5, .int v13), (6, .int 1), (7, .int v14)]) rfl ?_
            exact ih12 SM_10 x1 x2 x3 x4 v13 1 v14 hf
          · have hf := kB_f hf c12
            refine z_aload_n (pc := 51) (k0 := 1) E dX12_sumOf_51 rfl rfl ?_
            refine gM_22 (pc := 52) (i := 0) E rfl wd_4_17 dX12_sumOf_52 ?_
            refine z_iload (pc := 55) (k0 := 7) E dX12_sumOf_55 rfl ?_
            obtain ⟨c15, hf⟩ := kO_e hf
            refine lM_22 (pc := 57) (i := 0) E rfl c15 dX12_sumOf_57 ?_
            refine z_goto (pc := 58) (tgt := 62) E dX12_sumOf_58 (by decide) ?_
            obtain ⟨v16, e_v16, hf⟩ := kL_e hf
            refine z_iadd (pc := 62) (v := v16) E dX12_sumOf_62 e_v16 ?_
            refine z_istore (pc := 63) (lv' := [(5, .int v16), (6, .int 1), (0, .ref (aM 200)), (1, .int x1), (2, .int x2), (3, .int x3), (4, .int x4), (7, .int x7)]) E dX12_sumOf_63 (by decide) rfl ?_
            obtain ⟨v17, e_v17, hf⟩ := kL_e hf
            refine z_iinc (pc := 65) (k0 := 7) (v := v17) (lv' := [(7, .int v17), (5, .int v16), (6, .int 1), (0, .ref (aM 200)), (1, .int x1), (2, .int x2), (3, .int x3), (4, .int x4)]) E dX12_sumOf_65 rfl e_v17 (by decide) rfl ?_
            refine z_goto (pc := 68) (tgt := 12) E dX12_sumOf_68 (by decide) ?_
            refine z_sub [3, 4, 5, 6, 7, 1, 2, 0] (lv' := [(0, .ref (aM 200)), (1, .int x1), (2, .int x2), (3, .int x3), (4, .int x4), (5, .int v16), (6, .int 1), (7, .int v17)]) rfl ?_
            exact ih12 SM_10 x1 x2 x3 x4 v16 1 v17 hf
        · have hf := kB_f hf c8
          refine z_goto (pc := 32) (tgt := 65) E dX12_sumOf_32 (by decide) ?_
          obtain ⟨v18, e_v18, hf⟩ := kL_e hf
          refine z_iinc (pc := 65) (k0 := 7) (v := v18) (lv' := [(7, .int v18), (0, .ref (aM 200)), (1, .int x1), (2, .int x2), (3, .int x3), (4, .int x4), (5, .int x5), (6, .int x6)]) E dX12_sumOf_65 rfl e_v18 (by decide) rfl ?_
          refine z_goto (pc := 68) (tgt := 12) E dX12_sumOf_68 (by decide) ?_
          refine z_sub [1, 2, 3, 4, 5, 6, 7, 0] (lv' := [(0, .ref (aM 200)), (1, .int x1), (2, .int x2), (3, .int x3), (4, .int x4), (5, .int x5), (6, .int x6), (7, .int v18)]) rfl ?_
          exact ih12 SM x1 x2 x3 x4 x5 x6 v18 hf
  unfold f_X12_sumOf at hf
  refine z_iconst (pc := 0) (v := 0) E dX12_sumOf_0 (by decide) ?_
  refine z_istore (pc := 1) (lv' := [(5, .int 0), (0, .ref (aM 200)), (1, .int a1), (2, .int a2), (3, .int a3), (4, .int a4)]) E dX12_sumOf_1 (by decide) rfl ?_
  refine z_iconst (pc := 3) (v := 0) E dX12_sumOf_3 (by decide) ?_
  refine z_istore (pc := 4) (lv' := [(6, .int 0), (5, .int 0), (0, .ref (aM 200)), (1, .int a1), (2, .int a2), (3, .int a3), (4, .int a4)]) E dX12_sumOf_4 (by decide) rfl ?_
  refine z_aload_n (pc := 6) (k0 := 2) E dX12_sumOf_6 rfl rfl ?_
  obtain ⟨r1, h2, hf⟩ := kC_e hf
  refine z_callV0 (pc := 7) (is := [0]) (n := 0) (As := []) (st := []) (st' := [.int r1]) (C2 := [wM aM ct SM]) E (c_X12_begin (l := l) (G := G) (ct := ct) (aM := aM) h2) wv_X12_begin wd_16_9 ⟨Nat.le_of_ble_eq_true rfl, Nat.le_of_ble_eq_true rfl, Nat.le_of_ble_eq_true rfl, Nat.le_of_ble_eq_true rfl⟩ rfl rfl rfl (by decide) rfl rfl (zrM (j := 0) rfl) rfl (Nat.le_of_ble_eq_true rfl) dX12_sumOf_7 rfl rfl ?_
  refine z_istore (pc := 10) (lv' := [(7, .int r1), (6, .int 0), (5, .int 0), (0, .ref (aM 200)), (1, .int a1), (2, .int a2), (3, .int a3), (4, .int a4)]) E dX12_sumOf_10 (by decide) rfl ?_
  refine z_sub [3, 4, 5, 6, 7, 2, 1, 0] (lv' := [(0, .ref (aM 200)), (1, .int a1), (2, .int a2), (3, .int a3), (4, .int a4), (5, .int 0), (6, .int 0), (7, .int r1)]) rfl ?_
  exact L12 N SM a1 a2 a3 a4 0 0 r1 hf
noncomputable def f_X12_late (N : Nat) (SM : zMS) : Option Int32 := kB (0 ≤ (SM.1 32)) (some ((SM.1 32))) (kC (f_X12_lastOf N SM 2 60) (fun r2 => some (r2)))
theorem wv_X12_late : zWV RX12 yX12_late cX12_late 1 (some .int) 0 := ⟨wd_16_2, wd_16_3, wd_1_5, wd_16_4, by decide +kernel⟩
def rm_X12_late : Room := { frames := 2, cells := 0, slots := 0, locals := 44 }
set_option maxHeartbeats 4000000 in
set_option maxRecDepth 100000 in
theorem c_X12_late {l : Launch} {G : va_G} {ct : Nat → ClassId} {aM : Nat → Nat} {N : Nat} {SM : zMS} {r0 : Int32} (hf : f_X12_late N SM = some r0) : zC l yX12_late cX12_late 1 (some .int) rm_X12_late G ct [.ref (aM 200)] [wM aM ct SM] [wM aM ct SM] (some (.int r0)) 0 0 := by
  refine z_enter (own := RX12) (lv := [(0, .ref (aM 200))]) (by decide) rfl (Nat.le_of_ble_eq_true rfl) rfl ?_
  intro p e s m args below meth c A E hr hnm
  unfold f_X12_late at hf
  refine z_aload_n (pc := 0) (k0 := 0) E dX12_late_0 rfl rfl ?_
  refine gM_32 (pc := 1) (i := 0) E rfl wd_5_3 dX12_late_1 ?_
  refine z_if_ge (pc := 4) (tgt := 17) E dX12_late_4 (by decide) (fun c1 => ?_) (fun c1 => ?_)
  · have hf := kB_t hf c1
    refine z_aload_n (pc := 17) (k0 := 0) E dX12_late_17 rfl rfl ?_
    refine gM_32 (pc := 18) (i := 0) E rfl wd_5_3 dX12_late_18 ?_
    cases hf
    exact z_iret E hr dX12_late_21
  · have hf := kB_f hf c1
    refine z_aload_n (pc := 7) (k0 := 0) E dX12_late_7 rfl rfl ?_
    refine z_iconst (pc := 8) (v := 2) E dX12_late_8 (by decide) ?_
    refine z_bipush (pc := 9) (v := 60) E dX12_late_9 (by decide) ?_
    obtain ⟨r2, h3, hf⟩ := kC_e hf
    refine z_callV0 (pc := 11) (is := [0]) (n := 2) (As := [.int 2, .int 60]) (st := []) (st' := [.int r2]) (C2 := [wM aM ct SM]) E (c_X12_lastOf (l := l) (G := G) (ct := ct) (aM := aM) h3) wv_X12_lastOf wd_16_5 ⟨Nat.le_of_ble_eq_true rfl, Nat.le_of_ble_eq_true rfl, Nat.le_of_ble_eq_true rfl, Nat.le_of_ble_eq_true rfl⟩ rfl rfl rfl (by decide) rfl rfl (zrM (j := 0) rfl) rfl (Nat.le_of_ble_eq_true rfl) dX12_late_11 rfl rfl ?_
    refine z_goto (pc := 14) (tgt := 21) E dX12_late_14 (by decide) ?_
    cases hf
    exact z_iret E hr dX12_late_21
noncomputable def f_X12_deep (N : Nat) (SM : zMS) : Option Int32 := kC (f_X12_lastOf N SM 3 30) (fun r1 => some (r1))
theorem wv_X12_deep : zWV RX12 yX12_deep cX12_deep 1 (some .int) 0 := ⟨wd_29_12, wd_29_13, wd_1_5, wd_29_14, by decide +kernel⟩
def rm_X12_deep : Room := { frames := 2, cells := 0, slots := 0, locals := 44 }
set_option maxHeartbeats 4000000 in
set_option maxRecDepth 100000 in
theorem c_X12_deep {l : Launch} {G : va_G} {ct : Nat → ClassId} {aM : Nat → Nat} {N : Nat} {SM : zMS} {r0 : Int32} (hf : f_X12_deep N SM = some r0) : zC l yX12_deep cX12_deep 1 (some .int) rm_X12_deep G ct [.ref (aM 200)] [wM aM ct SM] [wM aM ct SM] (some (.int r0)) 0 0 := by
  refine z_enter (own := RX12) (lv := [(0, .ref (aM 200))]) (by decide) rfl (Nat.le_of_ble_eq_true rfl) rfl ?_
  intro p e s m args below meth c A E hr hnm
  unfold f_X12_deep at hf
  refine z_aload_n (pc := 0) (k0 := 0) E dX12_deep_0 rfl rfl ?_
  refine z_iconst (pc := 1) (v := 3) E dX12_deep_1 (by decide) ?_
  refine z_bipush (pc := 2) (v := 30) E dX12_deep_2 (by decide) ?_
  obtain ⟨r1, h2, hf⟩ := kC_e hf
  refine z_callV0 (pc := 4) (is := [0]) (n := 2) (As := [.int 3, .int 30]) (st := []) (st' := [.int r1]) (C2 := [wM aM ct SM]) E (c_X12_lastOf (l := l) (G := G) (ct := ct) (aM := aM) h2) wv_X12_lastOf wd_16_5 ⟨Nat.le_of_ble_eq_true rfl, Nat.le_of_ble_eq_true rfl, Nat.le_of_ble_eq_true rfl, Nat.le_of_ble_eq_true rfl⟩ rfl rfl rfl (by decide) rfl rfl (zrM (j := 0) rfl) rfl (Nat.le_of_ble_eq_true rfl) dX12_deep_4 rfl rfl ?_
  cases hf
  exact z_iret E hr dX12_deep_7
