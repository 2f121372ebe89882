noncomputable def f_X12_hear (SM : zMS) (a1 : Int32) : Option (Int32 × zMS) := kB ((SM.1 46) = 8) (some ((-4), SM)) (kO (¬ ((SM.1 46) < 0 ∨ 8 ≤ Int32.toNatClampNeg (SM.1 46))) (kO (a1 = 0 ∨ a1 = 1) (kL (mSA SM 47 (upd (SM.2.1 47) (Int32.toNatClampNeg (SM.1 46)) a1)) (fun SM_4 => kL ((SM_4.1 46) + 1) (fun v5 => kL (mSI SM_4 46 v5) (fun SM_6 => some ((SM_6.1 46), SM_6)))))))
theorem wv_X12_hear : zWV RX12 yX12_hear cX12_hear 2 (some .int) 1 := ⟨wd_39_14, wd_39_15, wd_1_5, wd_39_16, by decide +kernel⟩
def rm_X12_hear : Room := { frames := 0, cells := 0, slots := 0, locals := 0 }
set_option maxHeartbeats 4000000 in
set_option maxRecDepth 100000 in
theorem c_X12_hear {l : Launch} {G : va_G} {ct : Nat → ClassId} {aM : Nat → Nat} {SM : zMS} {a1 : Int32} {r0 : Int32} {OM : zMS} (hf : f_X12_hear SM a1 = some (r0, OM)) : zC l yX12_hear cX12_hear 2 (some .int) rm_X12_hear G ct [.ref (aM 200), .int a1] [wM aM ct SM] [wM aM ct OM] (some (.int r0)) 0 0 := by
  refine z_enter (own := RX12) (lv := [(0, .ref (aM 200)), (1, .int a1)]) (by decide) rfl (Nat.le_of_ble_eq_true rfl) rfl ?_
  intro p e s m args below meth c A E hr hnm
  unfold f_X12_hear at hf
  refine z_aload_n (pc := 0) (k0 := 0) E dX12_hear_0 rfl rfl ?_
  refine gM_46 (pc := 1) (i := 0) E rfl wd_5_17 dX12_hear_1 ?_
  refine z_bipush (pc := 4) (v := 8) E dX12_hear_4 (by decide) ?_
  refine z_icmp_ne (pc := 6) (tgt := 12) E dX12_hear_6 (by decide) (fun c1 => ?_) (fun c1 => ?_)
  · have hf := kB_f hf c1
    refine z_aload_n (pc := 12) (k0 := 0) E dX12_hear_12 rfl rfl ?_
    refine gM_47 (pc := 13) (i := 0) E rfl wd_5_18 dX12_hear_13 ?_
    refine z_aload_n (pc := 16) (k0 := 0) E dX12_hear_16 rfl rfl ?_
    refine gM_46 (pc := 17) (i := 0) E rfl wd_5_17 dX12_hear_17 ?_
    refine z_iload_n (pc := 20) (k0 := 1) E dX12_hear_20 rfl rfl ?_
    obtain ⟨c2, hf⟩ := kO_e hf
    obtain ⟨c3, hf⟩ := kO_e hf
    obtain ⟨SM_4, e_SM_4, hf⟩ := kL_e hf
    refine sM_47 (pc := 21) (i := 0) (S1 := SM_4) E rfl c2 c3 e_SM_4 dX12_hear_21 ?_
    show zJ p l e rm_X12_hear s m args below meth c (zQ G ct (some (.int r0)) [wM aM ct OM] A below args s 0 0) A G 2 0 0 [wM aM ct SM_4] [(0, .ref (aM 200)), (1, .int a1)] 22 []
    refine z_aload_n (pc := 22) (k0 := 0) E dX12_hear_22 rfl rfl ?_
    refine z_dup (pc := 23) E dX12_hear_23 rfl ?_
    refine gM_46 (pc := 24) (i := 0) E rfl wd_5_17 dX12_hear_24 ?_
    refine z_iconst (pc := 27) (v := 1) E dX12_hear_27 (by decide) ?_
    obtain ⟨v5, e_v5, hf⟩ := kL_e hf
    refine z_iadd (pc := 28) (v := v5) E dX12_hear_28 e_v5 ?_
    obtain ⟨SM_6, e_SM_6, hf⟩ := kL_e hf
    refine pM_46 (pc := 29) (i := 0) (S1 := SM_6) E rfl e_SM_6 wd_5_17 dX12_hear_29 ?_
    show zJ p l e rm_X12_hear s m args below meth c (zQ G ct (some (.int r0)) [wM aM ct OM] A below args s 0 0) A G 2 0 0 [wM aM ct SM_6] [(0, .ref (aM 200)), (1, .int a1)] 32 []
    refine z_aload_n (pc := 32) (k0 := 0) E dX12_hear_32 rfl rfl ?_
    refine gM_46 (pc := 33) (i := 0) E rfl wd_5_17 dX12_hear_33 ?_
    cases hf
    exact z_iret E hr dX12_hear_36
  · have hf := kB_t hf c1
    refine z_bipush (pc := 9) (v := (-4)) E dX12_hear_9 (by decide) ?_
    cases hf
    exact z_iret E hr dX12_hear_11
noncomputable def f_X12_hush (SM : zMS) : Option (Int32 × zMS) := kL (mSI SM 46 0) (fun SM_1 => some ((SM.1 46), SM_1))
theorem wv_X12_hush : zWV RX12 yX12_hush cX12_hush 2 (some .int) 0 := ⟨wd_39_22, wd_39_23, wd_1_5, wd_40_0, by decide +kernel⟩
def rm_X12_hush : Room := { frames := 0, cells := 0, slots := 0, locals := 0 }
set_option maxHeartbeats 4000000 in
set_option maxRecDepth 100000 in
theorem c_X12_hush {l : Launch} {G : va_G} {ct : Nat → ClassId} {aM : Nat → Nat} {SM : zMS} {r0 : Int32} {OM : zMS} (hf : f_X12_hush SM = some (r0, OM)) : zC l yX12_hush cX12_hush 2 (some .int) rm_X12_hush G ct [.ref (aM 200)] [wM aM ct SM] [wM aM ct OM] (some (.int r0)) 0 0 := by
  refine z_enter (own := RX12) (lv := [(0, .ref (aM 200))]) (by decide) rfl (Nat.le_of_ble_eq_true rfl) rfl ?_
  intro p e s m args below meth c A E hr hnm
  unfold f_X12_hush at hf
  refine z_aload_n (pc := 0) (k0 := 0) E dX12_hush_0 rfl rfl ?_
  refine gM_46 (pc := 1) (i := 0) E rfl wd_5_17 dX12_hush_1 ?_
  refine z_istore_n (pc := 4) (lv' := [(1, .int (SM.1 46)), (0, .ref (aM 200))]) E dX12_hush_4 rfl (by decide) rfl ?_
  refine z_aload_n (pc := 5) (k0 := 1) E dX12_hush_5 rfl rfl ?_
  refine z_iconst (pc := 6) (v := 0) E dX12_hush_6 (by decide) ?_
  obtain ⟨SM_1, e_SM_1, hf⟩ := kL_e hf
  refine pM_46 (pc := 7) (i := 0) (S1 := SM_1) E rfl e_SM_1 wd_5_17 dX12_hush_7 ?_
  show zJ p l e rm_X12_hush s m args below meth c (zQ G ct (some (.int r0)) [wM aM ct OM] A below args s 0 0) A G 2 0 0 [wM aM ct SM_1] [(1, .int (SM.1 46)), (0, .ref (aM 200))] 10 []
  refine z_iload_n (pc := 10) (k0 := 0) E dX12_hush_10 rfl rfl ?_
  cases hf
  exact z_iret E hr dX12_hush_11
noncomputable def f_X12_isHeard_l8 (N : Nat) : Nat → zMS → Int32 → Int32 → Int32 → Option (Int32 × zMS) := fun n => Nat.rec (motive := fun _ => zMS → Int32 → Int32 → Int32 → Option (Int32 × zMS)) (fun _ _ _ _ => none) (fun _ ih SM x1 x2 x3 => kB ((SM.1 46) ≤ x3) (kC (f_X12_putBack N SM) (fun SM_4 => kO (x2 = 0 ∨ x2 = 1) (some (x2, SM_4)))) (kB (x2 = 0) (kC (f_X12_putBack N SM) (fun SM_8 => kO (x2 = 0 ∨ x2 = 1) (some (x2, SM_8)))) (kC (f_X12_isOver N SM) (fun r11 => kB (r11 = 0) (kD (f_X12_goAsk N SM x1) (fun r15 SM_16 => kO (¬ (x3 < 0 ∨ 8 ≤ Int32.toNatClampNeg x3)) (kB (r15 = (SM_16.2.1 47 (Int32.toNatClampNeg x3))) (kL (x3 + 1) (fun v21 => ih SM_16 x1 1 v21)) (kL (x3 + 1) (fun v20 => ih SM_16 x1 0 v20))))) (kL (x3 + 1) (fun v14 => ih SM x1 0 v14)))))) n
theorem f_X12_isHeard_l8_z (N : Nat) (SM : zMS) (x1 : Int32) (x2 : Int32) (x3 : Int32) : f_X12_isHeard_l8 N 0 SM x1 x2 x3 = none := rfl
theorem f_X12_isHeard_l8_s (N : Nat) (n : Nat) (SM : zMS) (x1 : Int32) (x2 : Int32) (x3 : Int32) : f_X12_isHeard_l8 N (n + 1) SM x1 x2 x3 = kB ((SM.1 46) ≤ x3) (kC (f_X12_putBack N SM) (fun SM_4 => kO (x2 = 0 ∨ x2 = 1) (some (x2, SM_4)))) (kB (x2 = 0) (kC (f_X12_putBack N SM) (fun SM_8 => kO (x2 = 0 ∨ x2 = 1) (some (x2, SM_8)))) (kC (f_X12_isOver N SM) (fun r11 => kB (r11 = 0) (kD (f_X12_goAsk N SM x1) (fun r15 SM_16 => kO (¬ (x3 < 0 ∨ 8 ≤ Int32.toNatClampNeg x3)) (kB (r15 = (SM_16.2.1 47 (Int32.toNatClampNeg x3))) (kL (x3 + 1) (fun v21 => (f_X12_isHeard_l8 N n) SM_16 x1 1 v21)) (kL (x3 + 1) (fun v20 => (f_X12_isHeard_l8 N n) SM_16 x1 0 v20))))) (kL (x3 + 1) (fun v14 => (f_X12_isHeard_l8 N n) SM x1 0 v14))))) := rfl
noncomputable def f_X12_isHeard (N : Nat) (SM : zMS) (a1 : Int32) : Option (Int32 × zMS) := kC (f_X12_save N SM) (fun SM_1 => f_X12_isHeard_l8 N N SM_1 a1 1 0)
theorem wv_X12_isHeard : zWV RX12 yX12_isHeard cX12_isHeard 4 (some .boolean) 1 := ⟨wd_40_16, wd_40_17, wd_1_5, wd_40_18, by decide +kernel⟩
def rm_X12_isHeard : Room := { frames := 7, cells := 0, slots := 0, locals := 152 }
set_option maxHeartbeats 4000000 in
set_option maxRecDepth 100000 in
theorem c_X12_isHeard {l : Launch} {G : va_G} {ct : Nat → ClassId} {aM : Nat → Nat} {N : Nat} {SM : zMS} {a1 : Int32} {r0 : Int32} {OM : zMS} (hf : f_X12_isHeard N SM a1 = some (r0, OM)) : zC l yX12_isHeard cX12_isHeard 4 (some .boolean) rm_X12_isHeard G ct [.ref (aM 200), .int a1] [wM aM ct SM] [wM aM ct OM] (some (.int r0)) 0 0 := by
  refine z_enter (own := RX12) (lv := [(0, .ref (aM 200)), (1, .int a1)]) (by decide) rfl (Nat.le_of_ble_eq_true rfl) rfl ?_
  intro p e s m args below meth c A E hr hnm
  have L8 : ∀ (n8 : Nat) (SM : zMS) (x1 : Int32) (x2 : Int32) (x3 : Int32), f_X12_isHeard_l8 N n8 SM x1 x2 x3 = some (r0, OM) → zJ p l e rm_X12_isHeard s m args below meth c (zQ G ct (some (.int r0)) [wM aM ct OM] A below args s 0 0) A G 4 0 0 [wM aM ct SM] [(0, .ref (aM 200)), (1, .int x1), (2, .int x2), (3, .int x3)] 8 [] := by
    intro n8
    induction n8 with
    | zero =>
      intro SM x1 x2 x3 hf
      rw [f_X12_isHeard_l8_z] at hf
      cases hf
    | succ n8 ih8 =>
      intro SM x1 x2 x3 hf
      rw [f_X12_isHeard_l8_s] at hf
      refine z_iload_n (pc := 8) (k0 := 3) E dX12_isHeard_8 rfl rfl ?_
      refine z_aload_n (pc := 9) (k0 := 0) E dX12_isHeard_9 rfl rfl ?_
      refine gM_46 (pc := 10) (i := 0) E rfl wd_5_17 dX12_isHeard_10 ?_
      refine z_icmp_ge (pc := 13) (tgt := 53) E dX12_isHeard_13 (by decide) (fun c3 => ?_) (fun c3 => ?_)
      · have hf := kB_t hf c3
        refine z_aload_n (pc := 53) (k0 := 0) E dX12_isHeard_53 rfl rfl ?_
        obtain ⟨SM_4, h5, hf⟩ := kC_e hf
        refine z_callV0 (pc := 54) (is := [0]) (n := 0) (As := []) (st := []) (st' := []) (C2 := [wM aM ct SM_4]) E (c_X12_putBack (l := l) (G := G) (ct := ct) (aM := aM) h5) wv_X12_putBack wd_34_13 ⟨Nat.le_of_ble_eq_true rfl, Nat.le_of_ble_eq_true rfl, Nat.le_of_ble_eq_true rfl, Nat.le_of_ble_eq_true rfl⟩ rfl rfl rfl (by decide) rfl rfl (zrM (j := 0) rfl) rfl (Nat.le_of_ble_eq_true rfl) dX12_isHeard_54 rfl rfl ?_
        refine z_iload_n (pc := 57) (k0 := 2) E dX12_isHeard_57 rfl rfl ?_
        obtain ⟨c6, hf⟩ := kO_e hf
        cases hf
        exact z_zret E hr c6 dX12_isHeard_58
      · have hf := kB_f hf c3
        refine z_iload_n (pc := 16) (k0 := 2) E dX12_isHeard_16 rfl rfl ?_
        refine z_if_eq (pc := 17) (tgt := 53) E dX12_isHeard_17 (by decide) (fun c7 => ?_) (fun c7 => ?_)
        · have hf := kB_t hf c7
          refine z_aload_n (pc := 53) (k0 := 0) E dX12_isHeard_53 rfl rfl ?_
          obtain ⟨SM_8, h9, hf⟩ := kC_e hf
          refine z_callV0 (pc := 54) (is := [0]) (n := 0) (As := []) (st := []) (st' := []) (C2 := [wM aM ct SM_8]) E (c_X12_putBack (l := l) (G := G) (ct := ct) (aM := aM) h9) wv_X12_putBack wd_34_13 ⟨Nat.le_of_ble_eq_true rfl, Nat.le_of_ble_eq_true rfl, Nat.le_of_ble_eq_true rfl, Nat.le_of_ble_eq_true rfl⟩ rfl rfl rfl (by decide) rfl rfl (zrM (j := 0) rfl) rfl (Nat.le_of_ble_eq_true rfl) dX12_isHeard_54 rfl rfl ?_
          refine z_iload_n (pc := 57) (k0 := 2) E dX12_isHeard_57 rfl rfl ?_
          obtain ⟨c10, hf⟩ := kO_e hf
          cases hf
          exact z_zret E hr c10 dX12_isHeard_58
        · have hf := kB_f hf c7
          refine z_aload_n (pc := 20) (k0 := 0) E dX12_isHeard_20 rfl rfl ?_
          obtain ⟨r11, h12, hf⟩ := kC_e hf
          refine z_callV0 (pc := 21) (is := [0]) (n := 0) (As := []) (st := []) (st' := [.int r11]) (C2 := [wM aM ct SM]) E (c_X12_isOver (l := l) (G := G) (ct := ct) (aM := aM) h12) wv_X12_isOver wd_30_12 ⟨Nat.le_of_ble_eq_true rfl, Nat.le_of_ble_eq_true rfl, Nat.le_of_ble_eq_true rfl, Nat.le_of_ble_eq_true rfl⟩ rfl rfl rfl (by decide) rfl rfl (zrM (j := 0) rfl) rfl (Nat.le_of_ble_eq_true rfl) dX12_isHeard_21 rfl rfl ?_
          refine z_if_ne (pc := 24) (tgt := 45) E dX12_isHeard_24 (by decide) (fun c13 => ?_) (fun c13 => ?_)
          · have hf := kB_f hf c13
            refine z_iconst (pc := 45) (v := 0) E dX12_isHeard_45 (by decide) ?_
            refine z_istore_n (pc := 46) (lv' := [(2, .int 0), (0, .ref (aM 200)), (1, .int x1), (3, .int x3)]) E dX12_isHeard_46 rfl (by decide) rfl ?_
            obtain ⟨v14, e_v14, hf⟩ := kL_e hf
            refine z_iinc (pc := 47) (k0 := 3) (v := v14) (lv' := [(3, .int v14), (2, .int 0), (0, .ref (aM 200)), (1, .int x1)]) E dX12_isHeard_47 rfl e_v14 (by decide) rfl ?_
            refine z_goto (pc := 50) (tgt := 8) E dX12_isHeard_50 (by decide) ?_
            refine z_sub [2, 3, 1, 0] (lv' := [(0, .ref (aM 200)), (1, .int x1), (2, .int 0), (3, .int v14)]) rfl ?_
            exact ih8 SM x1 0 v14 hf
          · have hf := kB_t hf c13
            refine z_aload_n (pc := 27) (k0 := 0) E dX12_isHeard_27 rfl rfl ?_
            refine z_iload_n (pc := 28) (k0 := 1) E dX12_isHeard_28 rfl rfl ?_
            obtain ⟨r15, SM_16, h17, hf⟩ := kD_e hf
            refine z_callV0 (pc := 29) (is := [0]) (n := 1) (As := [.int x1]) (st := []) (st' := [.int r15]) (C2 := [wM aM ct SM_16]) E (c_X12_goAsk (l := l) (G := G) (ct := ct) (aM := aM) h17) wv_X12_goAsk wd_30_16 ⟨Nat.le_of_ble_eq_true rfl, Nat.le_of_ble_eq_true rfl, Nat.le_of_ble_eq_true rfl, Nat.le_of_ble_eq_true rfl⟩ rfl rfl rfl (by decide) rfl rfl (zrM (j := 0) rfl) rfl (Nat.le_of_ble_eq_true rfl) dX12_isHeard_29 rfl rfl ?_
            refine z_aload_n (pc := 32) (k0 := 0) E dX12_isHeard_32 rfl rfl ?_
            refine gM_47 (pc := 33) (i := 0) E rfl wd_5_18 dX12_isHeard_33 ?_
            refine z_iload_n (pc := 36) (k0 := 3) E dX12_isHeard_36 rfl rfl ?_
            obtain ⟨c18, hf⟩ := kO_e hf
            refine lM_47 (pc := 37) (i := 0) E rfl c18 dX12_isHeard_37 ?_
            refine z_icmp_ne (pc := 38) (tgt := 45) E dX12_isHeard_38 (by decide) (fun c19 => ?_) (fun c19 => ?_)
            · have hf := kB_f hf c19
              refine z_iconst (pc := 45) (v := 0) E dX12_isHeard_45 (by decide) ?_
              refine z_istore_n (pc := 46) (lv' := [(2, .int 0), (0, .ref (aM 200)), (1, .int x1), (3, .int x3)]) E dX12_isHeard_46 rfl (by decide) rfl ?_
              obtain ⟨v20, e_v20, hf⟩ := kL_e hf
              refine z_iinc (pc := 47) (k0 := 3) (v := v20) (lv' := [(3, .int v20), (2, .int 0), (0, .ref (aM 200)), (1, .int x1)]) E dX12_isHeard_47 rfl e_v20 (by decide) rfl ?_
              refine z_goto (pc := 50) (tgt := 8) E dX12_isHeard_50 (by decide) ?_
              refine z_sub [2, 3, 1, 0] (lv' := [(0, .ref (aM 200)), (1, .int x1), (2, .int 0), (3, .int v20)]) rfl ?_
              exact ih8 SM_16 x1 0 v20 hf
            · have hf := kB_t hf c19
              refine z_iconst (pc := 41) (v := 1) E dX12_isHeard_41 (by decide) ?_
              refine z_goto (pc := 42) (tgt := 46) E dX12_isHeard_42 (by decide) ?_
              refine z_istore_n (pc := 46) (lv' := [(2, .int 1), (0, .ref (aM 200)), (1, .int x1), (3, .int x3)]) E dX12_isHeard_46 rfl (by decide) rfl ?_
              obtain ⟨v21, e_v21, hf⟩ := kL_e hf
              refine z_iinc (pc := 47) (k0 := 3) (v := v21) (lv' := [(3, .int v21), (2, .int 1), (0, .ref (aM 200)), (1, .int x1)]) E dX12_isHeard_47 rfl e_v21 (by decide) rfl ?_
              refine z_goto (pc := 50) (tgt := 8) E dX12_isHeard_50 (by decide) ?_
              refine z_sub [2, 3, 1, 0] (lv' := [(0, .ref (aM 200)), (1, .int x1), (2, .int 1), (3, .int v21)]) rfl ?_
              exact ih8 SM_16 x1 1 v21 hf
  unfold f_X12_isHeard at hf
  refine z_aload_n (pc := 0) (k0 := 0) E dX12_isHeard_0 rfl rfl ?_
  obtain ⟨SM_1, h2, hf⟩ := kC_e hf
  refine z_callV0 (pc := 1) (is := [0]) (n := 0) (As := []) (st := []) (st' := []) (C2 := [wM aM ct SM_1]) E (c_X12_save (l := l) (G := G) (ct := ct) (aM := aM) h2) wv_X12_save wd_34_5 ⟨Nat.le_of_ble_eq_true rfl, Nat.le_of_ble_eq_true rfl, Nat.le_of_ble_eq_true rfl, Nat.le_of_ble_eq_true rfl⟩ rfl rfl rfl (by decide) rfl rfl (zrM (j := 0) rfl) rfl (Nat.le_of_ble_eq_true rfl) dX12_isHeard_1 rfl rfl ?_
  refine z_iconst (pc := 4) (v := 1) E dX12_isHeard_4 (by decide) ?_
  refine z_istore_n (pc := 5) (lv' := [(2, .int 1), (0, .ref (aM 200)), (1, .int a1)]) E dX12_isHeard_5 rfl (by decide) rfl ?_
  refine z_iconst (pc := 6) (v := 0) E dX12_isHeard_6 (by decide) ?_
  refine z_istore_n (pc := 7) (lv' := [(3, .int 0), (2, .int 1), (0, .ref (aM 200)), (1, .int a1)]) E dX12_isHeard_7 rfl (by decide) rfl ?_
  refine z_sub [2, 3, 1, 0] (lv' := [(0, .ref (aM 200)), (1, .int a1), (2, .int 1), (3, .int 0)]) rfl ?_
  exact L8 N SM_1 a1 1 0 hf
noncomputable def f_X12_who_l4 (N : Nat) : Nat → zMS → Int32 → Int32 → Option (Int32 × zMS) := fun n => Nat.rec (motive := fun _ => zMS → Int32 → Int32 → Option (Int32 × zMS)) (fun _ _ _ => none) (fun _ ih SM x1 x2 => kB ((SM.1 1) ≤ x2) (some (x1, SM)) (kD (f_X12_isHeard N SM x2) (fun r2 SM_3 => kB (r2 = 0) (kL (x1 ||| 0) (fun v6 => kL (x2 + 1) (fun v7 => ih SM_3 v6 v7))) (kL ((1 : Int32) <<< (x2 &&& 31)) (fun v8 => kL (x1 ||| v8) (fun v9 => kL (x2 + 1) (fun v10 => ih SM_3 v9 v10))))))) n
theorem f_X12_who_l4_z (N : Nat) (SM : zMS) (x1 : Int32) (x2 : Int32) : f_X12_who_l4 N 0 SM x1 x2 = none := rfl
theorem f_X12_who_l4_s (N : Nat) (n : Nat) (SM : zMS) (x1 : Int32) (x2 : Int32) : f_X12_who_l4 N (n + 1) SM x1 x2 = kB ((SM.1 1) ≤ x2) (some (x1, SM)) (kD (f_X12_isHeard N SM x2) (fun r2 SM_3 => kB (r2 = 0) (kL (x1 ||| 0) (fun v6 => kL (x2 + 1) (fun v7 => (f_X12_who_l4 N n) SM_3 v6 v7))) (kL ((1 : Int32) <<< (x2 &&& 31)) (fun v8 => kL (x1 ||| v8) (fun v9 => kL (x2 + 1) (fun v10 => (f_X12_who_l4 N n) SM_3 v9 v10)))))) := rfl
noncomputable def f_X12_who (N : Nat) (SM : zMS) : Option (Int32 × zMS) := f_X12_who_l4 N N SM 0 0
theorem wv_X12_who : zWV RX12 yX12_who cX12_who 3 (some .int) 0 := ⟨wd_40_12, wd_40_13, wd_1_5, wd_40_14, by decide +kernel⟩
def rm_X12_who : Room := { frames := 8, cells := 0, slots := 0, locals := 175 }
set_option maxHeartbeats 4000000 in
set_option maxRecDepth 100000 in
theorem c_X12_who {l : Launch} {G : va_G} {ct : Nat → ClassId} {aM : Nat → Nat} {N : Nat} {SM : zMS} {r0 : Int32} {OM : zMS} (hf : f_X12_who N SM = some (r0, OM)) : zC l yX12_who cX12_who 3 (some .int) rm_X12_who G ct [.ref (aM 200)] [wM aM ct SM] [wM aM ct OM] (some (.int r0)) 0 0 := by
  refine z_enter (own := RX12) (lv := [(0, .ref (aM 200))]) (by decide) rfl (Nat.le_of_ble_eq_true rfl) rfl ?_
  intro p e s m args below meth c A E hr hnm
  have L4 : ∀ (n4 : Nat) (SM : zMS) (x1 : Int32) (x2 : Int32), f_X12_who_l4 N n4 SM x1 x2 = some (r0, OM) → zJ p l e rm_X12_who s m args below meth c (zQ G ct (some (.int r0)) [wM aM ct OM] A below args s 0 0) A G 3 0 0 [wM aM ct SM] [(0, .ref (aM 200)), (1, .int x1), (2, .int x2)] 4 [] := by
    intro n4
    induction n4 with
    | zero =>
      intro SM x1 x2 hf
      rw [f_X12_who_l4_z] at hf
      cases hf
    | succ n4 ih4 =>
      intro SM x1 x2 hf
      rw [f_X12_who_l4_s] at hf
      refine z_iload_n (pc := 4) (k0 := 2) E dX12_who_4 rfl rfl ?_
      refine z_aload_n (pc := 5) (k0 := 0) E dX12_who_5 rfl rfl ?_
      refine gM_1 (pc := 6) (i := 0) E rfl wd_3_20 dX12_who_6 ?_
      refine z_icmp_ge (pc := 9) (tgt := 36) E dX12_who_9 (by decide) (fun c1 => ?_) (fun c1 => ?_)
      · have hf := kB_t hf c1
        refine z_iload_n (pc := 36) (k0 := 1) E dX12_who_36 rfl rfl ?_
        cases hf
        exact z_iret E hr dX12_who_37
      · have hf := kB_f hf c1
        refine z_iload_n (pc := 12) (k0 := 1) E dX12_who_12 rfl rfl ?_
        refine z_aload_n (pc := 13) (k0 := 0) E dX12_who_13 rfl rfl ?_
        refine z_iload_n (pc := 14) (k0 := 2) E dX12_who_14 rfl rfl ?_
        obtain ⟨r2, SM_3, h4, hf⟩ := kD_e hf
        refine z_callV0 (pc := 15) (is := [0]) (n := 1) (As := [.int x2]) (st := [.int x1]) (st' := [.int r2, .int x1]) (C2 := [wM aM ct SM_3]) E (c_X12_isHeard (l := l) (G := G) (ct := ct) (aM := aM) h4) wv_X12_isHeard wd_40_15 ⟨Nat.le_of_ble_eq_true rfl, Nat.le_of_ble_eq_true rfl, Nat.le_of_ble_eq_true rfl, Nat.le_of_ble_eq_true rfl⟩ rfl rfl rfl (by decide) rfl rfl (zrM (j := 0) rfl) rfl (Nat.le_of_ble_eq_true rfl) dX12_who_15 rfl rfl ?_
        refine z_if_eq (pc := 18) (tgt := 27) E dX12_who_18 (by decide) (fun c5 => ?_) (fun c5 => ?_)
        · have hf := kB_t hf c5
          refine z_iconst (pc := 27) (v := 0) E dX12_who_27 (by decide) ?_
          obtain ⟨v6, e_v6, hf⟩ := kL_e hf
          refine z_ior (pc := 28) (v := v6) E dX12_who_28 e_v6 ?_
          refine z_istore_n (pc := 29) (lv' := [(1, .int v6), (0, .ref (aM 200)), (2, .int x2)]) E dX12_who_29 rfl (by decide) rfl ?_
          obtain ⟨v7, e_v7, hf⟩ := kL_e hf
          refine z_iinc (pc := 30) (k0 := 2) (v := v7) (lv' := [(2, .int v7), (1, .int v6), (0, .ref (aM 200))]) E dX12_who_30 rfl e_v7 (by decide) rfl ?_
          refine z_goto (pc := 33) (tgt := 4) E dX12_who_33 (by decide) ?_
          refine z_sub [2, 1, 0] (lv' := [(0, .ref (aM 200)), (1, .int v6), (2, .int v7)]) rfl ?_
          exact ih4 SM_3 v6 v7 hf
        · have hf := kB_f hf c5
          refine z_iconst (pc := 21) (v := 1) E dX12_who_21 (by decide) ?_
          refine z_iload_n (pc := 22) (k0 := 2) E dX12_who_22 rfl rfl ?_
          obtain ⟨v8, e_v8, hf⟩ := kL_e hf
          refine z_ishl (pc := 23) (v := v8) E dX12_who_23 e_v8 ?_
          refine z_goto (pc := 24) (tgt := 28) E dX12_who_24 (by decide) ?_
          obtain ⟨v9, e_v9, hf⟩ := kL_e hf
          refine z_ior (pc := 28) (v := v9) E dX12_who_28 e_v9 ?_
          refine z_istore_n (pc := 29) (lv' := [(1, .int v9), (0, .ref (aM 200)), (2, .int x2)]) E dX12_who_29 rfl (by decide) rfl ?_
          obtain ⟨v10, e_v10, hf⟩ := kL_e hf
          refine z_iinc (pc := 30) (k0 := 2) (v := v10) (lv' := [(2, .int v10), (1, .int v9), (0, .ref (aM 200))]) E dX12_who_30 rfl e_v10 (by decide) rfl ?_
          refine z_goto (pc := 33) (tgt := 4) E dX12_who_33 (by decide) ?_
          refine z_sub [2, 1, 0] (lv' := [(0, .ref (aM 200)), (1, .int v9), (2, .int v10)]) rfl ?_
          exact ih4 SM_3 v9 v10 hf
  unfold f_X12_who at hf
  refine z_iconst (pc := 0) (v := 0) E dX12_who_0 (by decide) ?_
  refine z_istore_n (pc := 1) (lv' := [(1, .int 0), (0, .ref (aM 200))]) E dX12_who_1 rfl (by decide) rfl ?_
  refine z_iconst (pc := 2) (v := 0) E dX12_who_2 (by decide) ?_
  refine z_istore_n (pc := 3) (lv' := [(2, .int 0), (1, .int 0), (0, .ref (aM 200))]) E dX12_who_3 rfl (by decide) rfl ?_
  refine z_sub [2, 1, 0] (lv' := [(0, .ref (aM 200)), (1, .int 0), (2, .int 0)]) rfl ?_
  exact L4 N SM 0 0 hf
noncomputable def f_X12_divisor_l5 (N : Nat) (SM : zMS) : Nat → Int32 → Int32 → Option Int32 := fun n => Nat.rec (motive := fun _ => Int32 → Int32 → Option Int32) (fun _ _ => none) (fun _ ih x3 x4 => kB (x4 = 0) (some (x3)) (kO (¬ x4 = 0) (kL (x3 - x3 / x4 * x4) (fun v3 => ih x4 v3)))) n
theorem f_X12_divisor_l5_z (N : Nat) (SM : zMS) (x3 : Int32) (x4 : Int32) : f_X12_divisor_l5 N SM 0 x3 x4 = none := rfl
theorem f_X12_divisor_l5_s (N : Nat) (SM : zMS) (n : Nat) (x3 : Int32) (x4 : Int32) : f_X12_divisor_l5 N SM (n + 1) x3 x4 = kB (x4 = 0) (some (x3)) (kO (¬ x4 = 0) (kL (x3 - x3 / x4 * x4) (fun v3 => (f_X12_divisor_l5 N SM n) x4 v3))) := rfl
noncomputable def f_X12_divisor (N : Nat) (SM : zMS) (a1 : Int32) (a2 : Int32) : Option Int32 := f_X12_divisor_l5 N SM N a1 a2
theorem wv_X12_divisor : zWV RX12 yX12_divisor cX12_divisor 6 (some .int) 2 := ⟨wd_41_13, wd_41_14, wd_1_5, wd_41_15, by decide +kernel⟩
def rm_X12_divisor : Room := { frames := 0, cells := 0, slots := 0, locals := 0 }
set_option maxHeartbeats 4000000 in
set_option maxRecDepth 100000 in
theorem c_X12_divisor {l : Launch} {G : va_G} {ct : Nat → ClassId} {aM : Nat → Nat} {N : Nat} {SM : zMS} {a1 : Int32} {a2 : Int32} {r0 : Int32} (hf : f_X12_divisor N SM a1 a2 = some r0) : zC l yX12_divisor cX12_divisor 6 (some .int) rm_X12_divisor G ct [.ref (aM 200), .int a1, .int a2] [wM aM ct SM] [wM aM ct SM] (some (.int r0)) 0 0 := by
  refine z_enter (own := RX12) (lv := [(0, .ref (aM 200)), (1, .int a1), (2, .int a2)]) (by decide) rfl (Nat.le_of_ble_eq_true rfl) rfl ?_
  intro p e s m args below meth c A E hr hnm
  have L5 : ∀ (n5 : Nat) (x3 : Int32) (x4 : Int32), f_X12_divisor_l5 N SM n5 x3 x4 = some r0 → zJ p l e rm_X12_divisor s m args below meth c (zQ G ct (some (.int r0)) [wM aM ct SM] A below args s 0 0) A G 6 0 0 [wM aM ct SM] [(3, .int x3), (4, .int x4)] 5 [] := by
    intro n5
    induction n5 with
    | zero =>
      intro x3 x4 hf
      rw [f_X12_divisor_l5_z] at hf
      cases hf
    | succ n5 ih5 =>
      intro x3 x4 hf
      rw [f_X12_divisor_l5_s] at hf
      refine z_iload (pc := 5) (k0 := 1) E dX12_divisor_5 rfl ?_
      refine z_if_eq (pc := 7) (tgt := 26) E dX12_divisor_7 (by decide) (fun c1 => ?_) (fun c1 => ?_)
      · have hf := kB_t hf c1
        refine z_iload_n (pc := 26) (k0 := 0) E dX12_divisor_26 rfl rfl ?_
        cases hf
        exact z_iret E hr dX12_divisor_27
      · have hf := kB_f hf c1
        refine z_iload_n (pc := 10) (k0 := 0) E dX12_divisor_10 rfl rfl ?_
        refine z_iload (pc := 11) (k0 := 1) E dX12_divisor_11 rfl ?_
        obtain ⟨c2, hf⟩ := kO_e hf
        obtain ⟨v3, e_v3, hf⟩ := kL_e hf
        refine z_irem (pc := 13) (v := v3) E dX12_divisor_13 c2 e_v3 ?_
        refine z_istore (pc := 14) (lv' := [(5, .int v3), (3, .int x3), (4, .int x4)]) E dX12_divisor_14 (by decide) rfl ?_
        refine z_iload (pc := 16) (k0 := 2) E dX12_divisor_16 rfl ?_
        refine z_istore_n (pc := 18) (lv' := [(3, .int x4), (5, .int v3), (4, .int x4)]) E dX12_divisor_18 rfl (by decide) rfl ?_
        refine z_iload (pc := 19) (k0 := 1) E dX12_divisor_19 rfl ?_
        refine z_istore (pc := 21) (lv' := [(4, .int v3), (3, .int x4), (5, .int v3)]) E dX12_divisor_21 (by decide) rfl ?_
        refine z_goto (pc := 23) (tgt := 5) E dX12_divisor_23 (by decide) ?_
        refine z_sub [1, 0] (lv' := [(3, .int x4), (4, .int v3)]) rfl ?_
        exact ih5 x4 v3 hf
  unfold f_X12_divisor at hf
  refine z_iload_n (pc := 0) (k0 := 1) E dX12_divisor_0 rfl rfl ?_
  refine z_istore_n (pc := 1) (lv' := [(3, .int a1), (0, .ref (aM 200)), (1, .int a1), (2, .int a2)]) E dX12_divisor_1 rfl (by decide) rfl ?_
  refine z_iload_n (pc := 2) (k0 := 3) E dX12_divisor_2 rfl rfl ?_
  refine z_istore (pc := 3) (lv' := [(4, .int a2), (3, .int a1), (0, .ref (aM 200)), (1, .int a1), (2, .int a2)]) E dX12_divisor_3 (by decide) rfl ?_
  refine z_sub [1, 0] (lv' := [(3, .int a1), (4, .int a2)]) rfl ?_
  exact L5 N a1 a2 hf
noncomputable def f_X12_lowest (N : Nat) (SM : zMS) (a1 : Int32) (a2 : Int32) (a3 : Int32) : Option Int64 := kC (f_X12_divisor N SM a1 a2) (fun r1 => kB (a3 = 0) (kO (¬ r1 = 0) (kL (a1 / r1) (fun v8 => kL (v8.toInt64) (fun v9 => some (v9))))) (kO (¬ r1 = 0) (kL (a2 / r1) (fun v5 => kL (v5.toInt64) (fun v6 => some (v6))))))
theorem wv_X12_lowest : zWV RX12 yX12_lowest cX12_lowest 5 (some .long) 3 := ⟨wd_41_9, wd_41_10, wd_1_5, wd_41_11, by decide +kernel⟩
def rm_X12_lowest : Room := { frames := 1, cells := 0, slots := 0, locals := 25 }
set_option maxHeartbeats 4000000 in
set_option maxRecDepth 100000 in
theorem c_X12_lowest {l : Launch} {G : va_G} {ct : Nat → ClassId} {aM : Nat → Nat} {N : Nat} {SM : zMS} {a1 : Int32} {a2 : Int32} {a3 : Int32} {r0 : Int64} (hf : f_X12_lowest N SM a1 a2 a3 = some r0) : zC l yX12_lowest cX12_lowest 5 (some .long) rm_X12_lowest G ct [.ref (aM 200), .int a1, .int a2, .int a3] [wM aM ct SM] [wM aM ct SM] (some (.long r0)) 0 0 := by
  refine z_enter (own := RX12) (lv := [(0, .ref (aM 200)), (1, .int a1), (2, .int a2), (3, .int a3)]) (by decide) rfl (Nat.le_of_ble_eq_true rfl) rfl ?_
  intro p e s m args below meth c A E hr hnm
  unfold f_X12_lowest at hf
  refine z_aload_n (pc := 0) (k0 := 0) E dX12_lowest_0 rfl rfl ?_
  refine z_iload_n (pc := 1) (k0 := 1) E dX12_lowest_1 rfl rfl ?_
  refine z_iload_n (pc := 2) (k0 := 2) E dX12_lowest_2 rfl rfl ?_
  obtain ⟨r1, h2, hf⟩ := kC_e hf
  refine z_callV0 (pc := 3) (is := [0]) (n := 2) (As := [.int a1, .int a2]) (st := []) (st' := [.int r1]) (C2 := [wM aM ct SM]) E (c_X12_divisor (l := l) (G := G) (ct := ct) (aM := aM) h2) wv_X12_divisor wd_41_12 ⟨Nat.le_of_ble_eq_true rfl, Nat.le_of_ble_eq_true rfl, Nat.le_of_ble_eq_true rfl, Nat.le_of_ble_eq_true rfl⟩ rfl rfl rfl (by decide) rfl rfl (zrM (j := 0) rfl) rfl (Nat.le_of_ble_eq_true rfl) dX12_lowest_3 rfl rfl ?_
  refine z_istore (pc := 6) (lv' := [(4, .int r1), (0, .ref (aM 200)), (1, .int a1), (2, .int a2), (3, .int a3)]) E dX12_lowest_6 (by decide) rfl ?_
  refine z_iload_n (pc := 8) (k0 := 4) E dX12_lowest_8 rfl rfl ?_
  refine z_if_ne (pc := 9) (tgt := 20) E dX12_lowest_9 (by decide) (fun c3 => ?_) (fun c3 => ?_)
  · have hf := kB_f hf c3
    refine z_iload_n (pc := 20) (k0 := 3) E dX12_lowest_20 rfl rfl ?_
    refine z_iload (pc := 21) (k0 := 0) E dX12_lowest_21 rfl ?_
    obtain ⟨c4, hf⟩ := kO_e hf
    obtain ⟨v5, e_v5, hf⟩ := kL_e hf
    refine z_idiv (pc := 23) (v := v5) E dX12_lowest_23 c4 e_v5 ?_
    obtain ⟨v6, e_v6, hf⟩ := kL_e hf
    refine z_i2l (pc := 24) (v := v6) E dX12_lowest_24 e_v6 ?_
    cases hf
    exact z_lret E hr dX12_lowest_25
  · have hf := kB_t hf c3
    refine z_iload_n (pc := 12) (k0 := 2) E dX12_lowest_12 rfl rfl ?_
    refine z_iload (pc := 13) (k0 := 0) E dX12_lowest_13 rfl ?_
    obtain ⟨c7, hf⟩ := kO_e hf
    obtain ⟨v8, e_v8, hf⟩ := kL_e hf
    refine z_idiv (pc := 15) (v := v8) E dX12_lowest_15 c7 e_v8 ?_
    obtain ⟨v9, e_v9, hf⟩ := kL_e hf
    refine z_i2l (pc := 16) (v := v9) E dX12_lowest_16 e_v9 ?_
    refine z_goto (pc := 17) (tgt := 25) E dX12_lowest_17 (by decide) ?_
    cases hf
    exact z_lret E hr dX12_lowest_25
noncomputable def f_X12_odds_l40 (N : Nat) : Nat → zMS → Int32 → Int32 → Int32 → Int32 → Int32 → Option (Int64 × zMS) := fun n => Nat.rec (motive := fun _ => zMS → Int32 → Int32 → Int32 → Int32 → Int32 → Option (Int64 × zMS)) (fun _ _ _ _ _ _ => none) (fun _ ih SM x1 x2 x3 x4 x5 => kB ((SM.1 0) ≤ x5) (kL (mSI SM 7 x3) (fun SM_9 => kC (f_X12_lowest N SM_9 x4 (SM_9.1 0) x2) (fun r10 => some (r10, SM_9)))) (kL (mSI SM 7 x5) (fun SM_12 => kD (f_X12_sleepsBy N SM_12 x1) (fun r13 SM_14 => kB (0 ≤ r13) (kL (x4 + 1) (fun v17 => kL (x5 + 1) (fun v18 => ih SM_14 x1 x2 x3 v17 v18))) (kL (x4 + 0) (fun v19 => kL (x5 + 1) (fun v20 => ih SM_14 x1 x2 x3 v19 v20))))))) n
theorem f_X12_odds_l40_z (N : Nat) (SM : zMS) (x1 : Int32) (x2 : Int32) (x3 : Int32) (x4 : Int32) (x5 : Int32) : f_X12_odds_l40 N 0 SM x1 x2 x3 x4 x5 = none := rfl
theorem f_X12_odds_l40_s (N : Nat) (n : Nat) (SM : zMS) (x1 : Int32) (x2 : Int32) (x3 : Int32) (x4 : Int32) (x5 : Int32) : f_X12_odds_l40 N (n + 1) SM x1 x2 x3 x4 x5 = kB ((SM.1 0) ≤ x5) (kL (mSI SM 7 x3) (fun SM_9 => kC (f_X12_lowest N SM_9 x4 (SM_9.1 0) x2) (fun r10 => some (r10, SM_9)))) (kL (mSI SM 7 x5) (fun SM_12 => kD (f_X12_sleepsBy N SM_12 x1) (fun r13 SM_14 => kB (0 ≤ r13) (kL (x4 + 1) (fun v17 => kL (x5 + 1) (fun v18 => (f_X12_odds_l40 N n) SM_14 x1 x2 x3 v17 v18))) (kL (x4 + 0) (fun v19 => kL (x5 + 1) (fun v20 => (f_X12_odds_l40 N n) SM_14 x1 x2 x3 v19 v20)))))) := rfl
noncomputable def f_X12_odds (N : Nat) (SM : zMS) (a1 : Int32) (a2 : Int32) : Option (Int64 × zMS) := kC (f_X12_isParent SM a1) (fun r1 => kB (r1 = 0) (some ((-9223372036854775808), SM)) (kC (f_X12_in SM a2 0 1) (fun r4 => kB (r4 = 0) (some ((-9223372036854775808), SM)) (kB ((SM.1 0) = 0) (some ((-9223372036854775808), SM)) (f_X12_odds_l40 N N SM a1 a2 (SM.1 7) 0 0)))))
theorem wv_X12_odds : zWV RX12 yX12_odds cX12_odds 6 (some .long) 2 := ⟨wd_41_4, wd_41_5, wd_1_5, wd_41_6, by decide +kernel⟩
def rm_X12_odds : Room := { frames := 9, cells := 0, slots := 0, locals := 199 }
set_option maxHeartbeats 4000000 in
set_option maxRecDepth 100000 in
theorem c_X12_odds {l : Launch} {G : va_G} {ct : Nat → ClassId} {aM : Nat → Nat} {N : Nat} {SM : zMS} {a1 : Int32} {a2 : Int32} {r0 : Int64} {OM : zMS} (hf : f_X12_odds N SM a1 a2 = some (r0, OM)) : zC l yX12_odds cX12_odds 6 (some .long) rm_X12_odds G ct [.ref (aM 200), .int a1, .int a2] [wM aM ct SM] [wM aM ct OM] (some (.long r0)) 0 0 := by
  refine z_enter (own := RX12) (lv := [(0, .ref (aM 200)), (1, .int a1), (2, .int a2)]) (by decide) rfl (Nat.le_of_ble_eq_true rfl) rfl ?_
  intro p e s m args below meth c A E hr hnm
  have L40 : ∀ (n40 : Nat) (SM : zMS) (x1 : Int32) (x2 : Int32) (x3 : Int32) (x4 : Int32) (x5 : Int32), f_X12_odds_l40 N n40 SM x1 x2 x3 x4 x5 = some (r0, OM) → zJ p l e rm_X12_odds s m args below meth c (zQ G ct (some (.long r0)) [wM aM ct OM] A below args s 0 0) A G 6 0 0 [wM aM ct SM] [(0, .ref (aM 200)), (1, .int x1), (2, .int x2), (3, .int x3), (4, .int x4), (5, .int x5)] 40 [] := by
    intro n40
    induction n40 with
    | zero =>
      intro SM x1 x2 x3 x4 x5 hf
      rw [f_X12_odds_l40_z] at hf
      cases hf
    | succ n40 ih40 =>
      intro SM x1 x2 x3 x4 x5 hf
      rw [f_X12_odds_l40_s] at hf
      refine z_iload (pc := 40) (k0 := 5) E dX12_odds_40 rfl ?_
      refine z_aload_n (pc := 42) (k0 := 0) E dX12_odds_42 rfl rfl ?_
      refine gM_0 (pc := 43) (i := 0) E rfl wd_3_19 dX12_odds_43 ?_
      refine z_icmp_ge (pc := 46) (tgt := 79) E dX12_odds_46 (by decide) (fun c8 => ?_) (fun c8 => ?_)
      · have hf := kB_t hf c8
        refine z_aload_n (pc := 79) (k0 := 0) E dX12_odds_79 rfl rfl ?_
        refine z_iload_n (pc := 80) (k0 := 3) E dX12_odds_80 rfl rfl ?_
        obtain ⟨SM_9, e_SM_9, hf⟩ := kL_e hf
        refine pM_7 (pc := 81) (i := 0) (S1 := SM_9) E rfl e_SM_9 wd_4_2 dX12_odds_81 ?_
        show zJ p l e rm_X12_odds s m args below meth c (zQ G ct (some (.long r0)) [wM aM ct OM] A below args s 0 0) A G 6 0 0 [wM aM ct SM_9] [(0, .ref (aM 200)), (1, .int x1), (2, .int x2), (3, .int x3), (4, .int x4), (5, .int x5)] 84 []
        refine z_aload_n (pc := 84) (k0 := 0) E dX12_odds_84 rfl rfl ?_
        refine z_iload (pc := 85) (k0 := 4) E dX12_odds_85 rfl ?_
        refine z_aload_n (pc := 87) (k0 := 0) E dX12_odds_87 rfl rfl ?_
        refine gM_0 (pc := 88) (i := 0) E rfl wd_3_19 dX12_odds_88 ?_
        refine z_iload_n (pc := 91) (k0 := 2) E dX12_odds_91 rfl rfl ?_
        obtain ⟨r10, h11, hf⟩ := kC_e hf
        refine z_callV0 (pc := 92) (is := [0]) (n := 3) (As := [.int x4, .int (SM_9.1 0), .int x2]) (st := []) (st' := [.long r10]) (C2 := [wM aM ct SM_9]) E (c_X12_lowest (l := l) (G := G) (ct := ct) (aM := aM) h11) wv_X12_lowest wd_41_8 ⟨Nat.le_of_ble_eq_true rfl, Nat.le_of_ble_eq_true rfl, Nat.le_of_ble_eq_true rfl, Nat.le_of_ble_eq_true rfl⟩ rfl rfl rfl (by decide) rfl rfl (zrM (j := 0) rfl) rfl (Nat.le_of_ble_eq_true rfl) dX12_odds_92 rfl rfl ?_
        cases hf
        exact z_lret E hr dX12_odds_95
      · have hf := kB_f hf c8
        refine z_aload_n (pc := 49) (k0 := 0) E dX12_odds_49 rfl rfl ?_
        refine z_iload (pc := 50) (k0 := 5) E dX12_odds_50 rfl ?_
        obtain ⟨SM_12, e_SM_12, hf⟩ := kL_e hf
        refine pM_7 (pc := 52) (i := 0) (S1 := SM_12) E rfl e_SM_12 wd_4_2 dX12_odds_52 ?_
        show zJ p l e rm_X12_odds s m args below meth c (zQ G ct (some (.long r0)) [wM aM ct OM] A below args s 0 0) A G 6 0 0 [wM aM ct SM_12] [(0, .ref (aM 200)), (1, .int x1), (2, .int x2), (3, .int x3), (4, .int x4), (5, .int x5)] 55 []
        refine z_iload (pc := 55) (k0 := 4) E dX12_odds_55 rfl ?_
        refine z_aload_n (pc := 57) (k0 := 0) E dX12_odds_57 rfl rfl ?_
        refine z_iload_n (pc := 58) (k0 := 1) E dX12_odds_58 rfl rfl ?_
        obtain ⟨r13, SM_14, h15, hf⟩ := kD_e hf
        refine z_callV0 (pc := 59) (is := [0]) (n := 1) (As := [.int x1]) (st := [.int x4]) (st' := [.int r13, .int x4]) (C2 := [wM aM ct SM_14]) E (c_X12_sleepsBy (l := l) (G := G) (ct := ct) (aM := aM) h15) wv_X12_sleepsBy wd_35_10 ⟨Nat.le_of_ble_eq_true rfl, Nat.le_of_ble_eq_true rfl, Nat.le_of_ble_eq_true rfl, Nat.le_of_ble_eq_true rfl⟩ rfl rfl rfl (by decide) rfl rfl (zrM (j := 0) rfl) rfl (Nat.le_of_ble_eq_true rfl) dX12_odds_59 rfl rfl ?_
        refine z_if_ge (pc := 62) (tgt := 69) E dX12_odds_62 (by decide) (fun c16 => ?_) (fun c16 => ?_)
        · have hf := kB_t hf c16
          refine z_iconst (pc := 69) (v := 1) E dX12_odds_69 (by decide) ?_
          obtain ⟨v17, e_v17, hf⟩ := kL_e hf
          refine z_iadd (pc := 70) (v := v17) E dX12_odds_70 e_v17 ?_
          refine z_istore (pc := 71) (lv' := [(4, .int v17), (0, .ref (aM 200)), (1, .int x1), (2, .int x2), (3, .int x3), (5, .int x5)]) E dX12_odds_71 (by decide) rfl ?_
          obtain ⟨v18, e_v18, hf⟩ := kL_e hf
          refine z_iinc (pc := 73) (k0 := 5) (v := v18) (lv' := [(5, .int v18), (4, .int v17), (0, .ref (aM 200)), (1, .int x1), (2, .int x2), (3, .int x3)]) E dX12_odds_73 rfl e_v18 (by decide) rfl ?_
          refine z_goto (pc := 76) (tgt := 40) E dX12_odds_76 (by decide) ?_
          refine z_sub [2, 3, 4, 5, 1, 0] (lv' := [(0, .ref (aM 200)), (1, .int x1), (2, .int x2), (3, .int x3), (4, .int v17), (5, .int v18)]) rfl ?_
          exact ih40 SM_14 x1 x2 x3 v17 v18 hf
        · have hf := kB_f hf c16
          refine z_iconst (pc := 65) (v := 0) E dX12_odds_65 (by decide) ?_
          refine z_goto (pc := 66) (tgt := 70) E dX12_odds_66 (by decide) ?_
          obtain ⟨v19, e_v19, hf⟩ := kL_e hf
          refine z_iadd (pc := 70) (v := v19) E dX12_odds_70 e_v19 ?_
          refine z_istore (pc := 71) (lv' := [(4, .int v19), (0, .ref (aM 200)), (1, .int x1), (2, .int x2), (3, .int x3), (5, .int x5)]) E dX12_odds_71 (by decide) rfl ?_
          obtain ⟨v20, e_v20, hf⟩ := kL_e hf
          refine z_iinc (pc := 73) (k0 := 5) (v := v20) (lv' := [(5, .int v20), (4, .int v19), (0, .ref (aM 200)), (1, .int x1), (2, .int x2), (3, .int x3)]) E dX12_odds_73 rfl e_v20 (by decide) rfl ?_
          refine z_goto (pc := 76) (tgt := 40) E dX12_odds_76 (by decide) ?_
          refine z_sub [2, 3, 4, 5, 1, 0] (lv' := [(0, .ref (aM 200)), (1, .int x1), (2, .int x2), (3, .int x3), (4, .int v19), (5, .int v20)]) rfl ?_
          exact ih40 SM_14 x1 x2 x3 v19 v20 hf
  unfold f_X12_odds at hf
  refine z_aload_n (pc := 0) (k0 := 0) E dX12_odds_0 rfl rfl ?_
  refine z_iload_n (pc := 1) (k0 := 1) E dX12_odds_1 rfl rfl ?_
  obtain ⟨r1, h2, hf⟩ := kC_e hf
  refine z_callV0 (pc := 2) (is := [0]) (n := 1) (As := [.int a1]) (st := []) (st' := [.int r1]) (C2 := [wM aM ct SM]) E (c_X12_isParent (l := l) (G := G) (ct := ct) (aM := aM) h2) wv_X12_isParent wd_15_13 ⟨Nat.le_of_ble_eq_true rfl, Nat.le_of_ble_eq_true rfl, Nat.le_of_ble_eq_true rfl, Nat.le_of_ble_eq_true rfl⟩ rfl rfl rfl (by decide) rfl rfl (zrM (j := 0) rfl) rfl (Nat.le_of_ble_eq_true rfl) dX12_odds_2 rfl rfl ?_
  refine z_if_eq (pc := 5) (tgt := 25) E dX12_odds_5 (by decide) (fun c3 => ?_) (fun c3 => ?_)
  · have hf := kB_t hf c3
    refine z_ldc2 (pc := 25) (v := (-9223372036854775808)) E wd_41_7 dX12_odds_25 ?_
    cases hf
    exact z_lret E hr dX12_odds_28
  · have hf := kB_f hf c3
    refine z_aload_n (pc := 8) (k0 := 0) E dX12_odds_8 rfl rfl ?_
    refine z_iload_n (pc := 9) (k0 := 2) E dX12_odds_9 rfl rfl ?_
    refine z_iconst (pc := 10) (v := 0) E dX12_odds_10 (by decide) ?_
    refine z_iconst (pc := 11) (v := 1) E dX12_odds_11 (by decide) ?_
    obtain ⟨r4, h5, hf⟩ := kC_e hf
    refine z_callV0 (pc := 12) (is := [0]) (n := 3) (As := [.int a2, .int 0, .int 1]) (st := []) (st' := [.int r4]) (C2 := [wM aM ct SM]) E (c_X12_in (l := l) (G := G) (ct := ct) (aM := aM) h5) wv_X12_in wd_7_11 ⟨Nat.le_of_ble_eq_true rfl, Nat.le_of_ble_eq_true rfl, Nat.le_of_ble_eq_true rfl, Nat.le_of_ble_eq_true rfl⟩ rfl rfl rfl (by decide) rfl rfl (zrM (j := 0) rfl) rfl (Nat.le_of_ble_eq_true rfl) dX12_odds_12 rfl rfl ?_
    refine z_if_eq (pc := 15) (tgt := 25) E dX12_odds_15 (by decide) (fun c6 => ?_) (fun c6 => ?_)
    · have hf := kB_t hf c6
      refine z_ldc2 (pc := 25) (v := (-9223372036854775808)) E wd_41_7 dX12_odds_25 ?_
      cases hf
      exact z_lret E hr dX12_odds_28
    · have hf := kB_f hf c6
      refine z_aload_n (pc := 18) (k0 := 0) E dX12_odds_18 rfl rfl ?_
      refine gM_0 (pc := 19) (i := 0) E rfl wd_3_19 dX12_odds_19 ?_
      refine z_if_ne (pc := 22) (tgt := 29) E dX12_odds_22 (by decide) (fun c7 => ?_) (fun c7 => ?_)
      · have hf := kB_f hf c7
        refine z_aload_n (pc := 29) (k0 := 0) E dX12_odds_29 rfl rfl ?_
        refine gM_7 (pc := 30) (i := 0) E rfl wd_4_2 dX12_odds_30 ?_
        refine z_istore_n (pc := 33) (lv' := [(3, .int (SM.1 7)), (0, .ref (aM 200)), (1, .int a1), (2, .int a2)]) E dX12_odds_33 rfl (by decide) rfl ?_
        refine z_iconst (pc := 34) (v := 0) E dX12_odds_34 (by decide) ?_
        refine z_istore (pc := 35) (lv' := [(4, .int 0), (3, .int (SM.1 7)), (0, .ref (aM 200)), (1, .int a1), (2, .int a2)]) E dX12_odds_35 (by decide) rfl ?_
        refine z_iconst (pc := 37) (v := 0) E dX12_odds_37 (by decide) ?_
        refine z_istore (pc := 38) (lv' := [(5, .int 0), (4, .int 0), (3, .int (SM.1 7)), (0, .ref (aM 200)), (1, .int a1), (2, .int a2)]) E dX12_odds_38 (by decide) rfl ?_
        refine z_sub [3, 4, 5, 2, 1, 0] (lv' := [(0, .ref (aM 200)), (1, .int a1), (2, .int a2), (3, .int (SM.1 7)), (4, .int 0), (5, .int 0)]) rfl ?_
        exact L40 N SM a1 a2 (SM.1 7) 0 0 hf
      · have hf := kB_t hf c7
        refine z_ldc2 (pc := 25) (v := (-9223372036854775808)) E wd_41_7 dX12_odds_25 ?_
        cases hf
        exact z_lret E hr dX12_odds_28
noncomputable def f_X12_mean_l25 (N : Nat) : Nat → zMS → Int32 → Int32 → Int32 → Option (Int64 × zMS) := fun n => Nat.rec (motive := fun _ => zMS → Int32 → Int32 → Int32 → Option (Int64 × zMS)) (fun _ _ _ _ => none) (fun _ ih SM x1 x2 x3 => kB ((SM.1 1) ≤ x3) (kC (f_X12_lowest N SM x2 (SM.1 1) x1) (fun r6 => some (r6, SM))) (kD (f_X12_on N SM x3 60 0) (fun r8 SM_9 => kL (x2 + r8) (fun v11 => kL (x3 + 1) (fun v12 => ih SM_9 x1 v11 v12))))) n
theorem f_X12_mean_l25_z (N : Nat) (SM : zMS) (x1 : Int32) (x2 : Int32) (x3 : Int32) : f_X12_mean_l25 N 0 SM x1 x2 x3 = none := rfl
theorem f_X12_mean_l25_s (N : Nat) (n : Nat) (SM : zMS) (x1 : Int32) (x2 : Int32) (x3 : Int32) : f_X12_mean_l25 N (n + 1) SM x1 x2 x3 = kB ((SM.1 1) ≤ x3) (kC (f_X12_lowest N SM x2 (SM.1 1) x1) (fun r6 => some (r6, SM))) (kD (f_X12_on N SM x3 60 0) (fun r8 SM_9 => kL (x2 + r8) (fun v11 => kL (x3 + 1) (fun v12 => (f_X12_mean_l25 N n) SM_9 x1 v11 v12)))) := rfl
noncomputable def f_X12_mean (N : Nat) (SM : zMS) (a1 : Int32) : Option (Int64 × zMS) := kC (f_X12_in SM a1 0 1) (fun r1 => kB (r1 = 0) (some ((-9223372036854775808), SM)) (kB ((SM.1 1) = 0) (some ((-9223372036854775808), SM)) (f_X12_mean_l25 N N SM a1 0 0)))
theorem wv_X12_mean : zWV RX12 yX12_mean cX12_mean 4 (some .long) 1 := ⟨wd_41_21, wd_41_22, wd_1_5, wd_41_23, by decide +kernel⟩
def rm_X12_mean : Room := { frames := 9, cells := 0, slots := 0, locals := 201 }
set_option maxHeartbeats 4000000 in
set_option maxRecDepth 100000 in
theorem c_X12_mean {l : Launch} {G : va_G} {ct : Nat → ClassId} {aM : Nat → Nat} {N : Nat} {SM : zMS} {a1 : Int32} {r0 : Int64} {OM : zMS} (hf : f_X12_mean N SM a1 = some (r0, OM)) : zC l yX12_mean cX12_mean 4 (some .long) rm_X12_mean G ct [.ref (aM 200), .int a1] [wM aM ct SM] [wM aM ct OM] (some (.long r0)) 0 0 := by
  refine z_enter (own := RX12) (lv := [(0, .ref (aM 200)), (1, .int a1)]) (by decide) rfl (Nat.le_of_ble_eq_true rfl) rfl ?_
  intro p e s m args below meth c A E hr hnm
  have L25 : ∀ (n25 : Nat) (SM : zMS) (x1 : Int32) (x2 : Int32) (x3 : Int32), f_X12_mean_l25 N n25 SM x1 x2 x3 = some (r0, OM) → zJ p l e rm_X12_mean s m args below meth c (zQ G ct (some (.long r0)) [wM aM ct OM] A below args s 0 0) A G 4 0 0 [wM aM ct SM] [(0, .ref (aM 200)), (1, .int x1), (2, .int x2), (3, .int x3)] 25 [] := by
    intro n25
    induction n25 with
    | zero =>
      intro SM x1 x2 x3 hf
      rw [f_X12_mean_l25_z] at hf
      cases hf
    | succ n25 ih25 =>
      intro SM x1 x2 x3 hf
      rw [f_X12_mean_l25_s] at hf
      refine z_iload_n (pc := 25) (k0 := 3) E dX12_mean_25 rfl rfl ?_
      refine z_aload_n (pc := 26) (k0 := 0) E dX12_mean_26 rfl rfl ?_
      refine gM_1 (pc := 27) (i := 0) E rfl wd_3_20 dX12_mean_27 ?_
      refine z_icmp_ge (pc := 30) (tgt := 50) E dX12_mean_30 (by decide) (fun c5 => ?_) (fun c5 => ?_)
      · have hf := kB_t hf c5
        refine z_aload_n (pc := 50) (k0 := 0) E dX12_mean_50 rfl rfl ?_
        refine z_iload_n (pc := 51) (k0 := 2) E dX12_mean_51 rfl rfl ?_
        refine z_aload_n (pc := 52) (k0 := 0) E dX12_mean_52 rfl rfl ?_
        refine gM_1 (pc := 53) (i := 0) E rfl wd_3_20 dX12_mean_53 ?_
        refine z_iload_n (pc := 56) (k0 := 1) E dX12_mean_56 rfl rfl ?_
        obtain ⟨r6, h7, hf⟩ := kC_e hf
        refine z_callV0 (pc := 57) (is := [0]) (n := 3) (As := [.int x2, .int (SM.1 1), .int x1]) (st := []) (st' := [.long r6]) (C2 := [wM aM ct SM]) E (c_X12_lowest (l := l) (G := G) (ct := ct) (aM := aM) h7) wv_X12_lowest wd_41_8 ⟨Nat.le_of_ble_eq_true rfl, Nat.le_of_ble_eq_true rfl, Nat.le_of_ble_eq_true rfl, Nat.le_of_ble_eq_true rfl⟩ rfl rfl rfl (by decide) rfl rfl (zrM (j := 0) rfl) rfl (Nat.le_of_ble_eq_true rfl) dX12_mean_57 rfl rfl ?_
        cases hf
        exact z_lret E hr dX12_mean_60
      · have hf := kB_f hf c5
        refine z_iload_n (pc := 33) (k0 := 2) E dX12_mean_33 rfl rfl ?_
        refine z_aload_n (pc := 34) (k0 := 0) E dX12_mean_34 rfl rfl ?_
        refine z_iload_n (pc := 35) (k0 := 3) E dX12_mean_35 rfl rfl ?_
        refine z_bipush (pc := 36) (v := 60) E dX12_mean_36 (by decide) ?_
        refine z_iconst (pc := 38) (v := 0) E dX12_mean_38 (by decide) ?_
        obtain ⟨r8, SM_9, h10, hf⟩ := kD_e hf
        refine z_callV0 (pc := 39) (is := [0]) (n := 3) (As := [.int x3, .int 60, .int 0]) (st := [.int x2]) (st' := [.int r8, .int x2]) (C2 := [wM aM ct SM_9]) E (c_X12_on (l := l) (G := G) (ct := ct) (aM := aM) h10) wv_X12_on wd_42_0 ⟨Nat.le_of_ble_eq_true rfl, Nat.le_of_ble_eq_true rfl, Nat.le_of_ble_eq_true rfl, Nat.le_of_ble_eq_true rfl⟩ rfl rfl rfl (by decide) rfl rfl (zrM (j := 0) rfl) rfl (Nat.le_of_ble_eq_true rfl) dX12_mean_39 rfl rfl ?_
        obtain ⟨v11, e_v11, hf⟩ := kL_e hf
        refine z_iadd (pc := 42) (v := v11) E dX12_mean_42 e_v11 ?_
        refine z_istore_n (pc := 43) (lv' := [(2, .int v11), (0, .ref (aM 200)), (1, .int x1), (3, .int x3)]) E dX12_mean_43 rfl (by decide) rfl ?_
        obtain ⟨v12, e_v12, hf⟩ := kL_e hf
        refine z_iinc (pc := 44) (k0 := 3) (v := v12) (lv' := [(3, .int v12), (2, .int v11), (0, .ref (aM 200)), (1, .int x1)]) E dX12_mean_44 rfl e_v12 (by decide) rfl ?_
        refine z_goto (pc := 47) (tgt := 25) E dX12_mean_47 (by decide) ?_
        refine z_sub [2, 3, 1, 0] (lv' := [(0, .ref (aM 200)), (1, .int x1), (2, .int v11), (3, .int v12)]) rfl ?_
        exact ih25 SM_9 x1 v11 v12 hf
  unfold f_X12_mean at hf
  refine z_aload_n (pc := 0) (k0 := 0) E dX12_mean_0 rfl rfl ?_
  refine z_iload_n (pc := 1) (k0 := 1) E dX12_mean_1 rfl rfl ?_
  refine z_iconst (pc := 2) (v := 0) E dX12_mean_2 (by decide) ?_
  refine z_iconst (pc := 3) (v := 1) E dX12_mean_3 (by decide) ?_
  obtain ⟨r1, h2, hf⟩ := kC_e hf
  refine z_callV0 (pc := 4) (is := [0]) (n := 3) (As := [.int a1, .int 0, .int 1]) (st := []) (st' := [.int r1]) (C2 := [wM aM ct SM]) E (c_X12_in (l := l) (G := G) (ct := ct) (aM := aM) h2) wv_X12_in wd_7_11 ⟨Nat.le_of_ble_eq_true rfl, Nat.le_of_ble_eq_true rfl, Nat.le_of_ble_eq_true rfl, Nat.le_of_ble_eq_true rfl⟩ rfl rfl rfl (by decide) rfl rfl (zrM (j := 0) rfl) rfl (Nat.le_of_ble_eq_true rfl) dX12_mean_4 rfl rfl ?_
  refine z_if_eq (pc := 7) (tgt := 17) E dX12_mean_7 (by decide) (fun c3 => ?_) (fun c3 => ?_)
  · have hf := kB_t hf c3
    refine z_ldc2 (pc := 17) (v := (-9223372036854775808)) E wd_41_7 dX12_mean_17 ?_
    cases hf
    exact z_lret E hr dX12_mean_20
  · have hf := kB_f hf c3
    refine z_aload_n (pc := 10) (k0 := 0) E dX12_mean_10 rfl rfl ?_
    refine gM_1 (pc := 11) (i := 0) E rfl wd_3_20 dX12_mean_11 ?_
    refine z_if_ne (pc := 14) (tgt := 21) E dX12_mean_14 (by decide) (fun c4 => ?_) (fun c4 => ?_)
    · have hf := kB_f hf c4
      refine z_iconst (pc := 21) (v := 0) E dX12_mean_21 (by decide) ?_
      refine z_istore_n (pc := 22) (lv' := [(2, .int 0), (0, .ref (aM 200)), (1, .int a1)]) E dX12_mean_22 rfl (by decide) rfl ?_
      refine z_iconst (pc := 23) (v := 0) E dX12_mean_23 (by decide) ?_
      refine z_istore_n (pc := 24) (lv' := [(3, .int 0), (2, .int 0), (0, .ref (aM 200)), (1, .int a1)]) E dX12_mean_24 rfl (by decide) rfl ?_
      refine z_sub [2, 3, 1, 0] (lv' := [(0, .ref (aM 200)), (1, .int a1), (2, .int 0), (3, .int 0)]) rfl ?_
      exact L25 N SM a1 0 0 hf
    · have hf := kB_t hf c4
      refine z_ldc2 (pc := 17) (v := (-9223372036854775808)) E wd_41_7 dX12_mean_17 ?_
      cases hf
      exact z_lret E hr dX12_mean_20
noncomputable def f_X12_book (SM : zMS) (a1 : Int32) : Option (Int32 × zMS) := kB (a1 = (-1)) (kL (mSI SM 48 0) (fun SM_10 => some (0, SM_10))) (kC (f_X12_isParent SM a1) (fun r2 => kB (r2 = 0) (some ((-1), SM)) (kB ((SM.1 48) = 12) (some ((-4), SM)) (kO (¬ ((SM.1 48) < 0 ∨ 12 ≤ Int32.toNatClampNeg (SM.1 48))) (kL (mSA SM 49 (upd (SM.2.1 49) (Int32.toNatClampNeg (SM.1 48)) a1)) (fun SM_7 => kL ((SM_7.1 48) + 1) (fun v8 => kL (mSI SM_7 48 v8) (fun SM_9 => some ((SM_9.1 48), SM_9)))))))))
theorem wv_X12_book : zWV RX12 yX12_book cX12_book 2 (some .int) 1 := ⟨wd_42_8, wd_42_9, wd_1_5, wd_42_10, by decide +kernel⟩
def rm_X12_book : Room := { frames := 2, cells := 0, slots := 0, locals := 44 }
set_option maxHeartbeats 4000000 in
set_option maxRecDepth 100000 in
theorem c_X12_book {l : Launch} {G : va_G} {ct : Nat → ClassId} {aM : Nat → Nat} {SM : zMS} {a1 : Int32} {r0 : Int32} {OM : zMS} (hf : f_X12_book SM a1 = some (r0, OM)) : zC l yX12_book cX12_book 2 (some .int) rm_X12_book G ct [.ref (aM 200), .int a1] [wM aM ct SM] [wM aM ct OM] (some (.int r0)) 0 0 := by
  refine z_enter (own := RX12) (lv := [(0, .ref (aM 200)), (1, .int a1)]) (by decide) rfl (Nat.le_of_ble_eq_true rfl) rfl ?_
  intro p e s m args below meth c A E hr hnm
  unfold f_X12_book at hf
  refine z_iload_n (pc := 0) (k0 := 1) E dX12_book_0 rfl rfl ?_
  refine z_iconst (pc := 1) (v := (-1)) E dX12_book_1 (by decide) ?_
  refine z_icmp_ne (pc := 2) (tgt := 12) E dX12_book_2 (by decide) (fun c1 => ?_) (fun c1 => ?_)
  · have hf := kB_f hf c1
    refine z_aload_n (pc := 12) (k0 := 0) E dX12_book_12 rfl rfl ?_
    refine z_iload_n (pc := 13) (k0 := 1) E dX12_book_13 rfl rfl ?_
    obtain ⟨r2, h3, hf⟩ := kC_e hf
    refine z_callV0 (pc := 14) (is := [0]) (n := 1) (As := [.int a1]) (st := []) (st' := [.int r2]) (C2 := [wM aM ct SM]) E (c_X12_isParent (l := l) (G := G) (ct := ct) (aM := aM) h3) wv_X12_isParent wd_15_13 ⟨Nat.le_of_ble_eq_true rfl, Nat.le_of_ble_eq_true rfl, Nat.le_of_ble_eq_true rfl, Nat.le_of_ble_eq_true rfl⟩ rfl rfl rfl (by decide) rfl rfl (zrM (j := 0) rfl) rfl (Nat.le_of_ble_eq_true rfl) dX12_book_14 rfl rfl ?_
    refine z_if_ne (pc := 17) (tgt := 22) E dX12_book_17 (by decide) (fun c4 => ?_) (fun c4 => ?_)
    · have hf := kB_f hf c4
      refine z_aload_n (pc := 22) (k0 := 0) E dX12_book_22 rfl rfl ?_
      refine gM_48 (pc := 23) (i := 0) E rfl wd_5_19 dX12_book_23 ?_
      refine z_bipush (pc := 26) (v := 12) E dX12_book_26 (by decide) ?_
      refine z_icmp_ne (pc := 28) (tgt := 34) E dX12_book_28 (by decide) (fun c5 => ?_) (fun c5 => ?_)
      · have hf := kB_f hf c5
        refine z_aload_n (pc := 34) (k0 := 0) E dX12_book_34 rfl rfl ?_
        refine gM_49 (pc := 35) (i := 0) E rfl wd_5_20 dX12_book_35 ?_
        refine z_aload_n (pc := 38) (k0 := 0) E dX12_book_38 rfl rfl ?_
        refine gM_48 (pc := 39) (i := 0) E rfl wd_5_19 dX12_book_39 ?_
        refine z_iload_n (pc := 42) (k0 := 1) E dX12_book_42 rfl rfl ?_
        obtain ⟨c6, hf⟩ := kO_e hf
        obtain ⟨SM_7, e_SM_7, hf⟩ := kL_e hf
        refine sM_49 (pc := 43) (i := 0) (S1 := SM_7) E rfl c6 e_SM_7 dX12_book_43 ?_
        show zJ p l e rm_X12_book s m args below meth c (zQ G ct (some (.int r0)) [wM aM ct OM] A below args s 0 0) A G 2 0 0 [wM aM ct SM_7] [(0, .ref (aM 200)), (1, .int a1)] 44 []
        refine z_aload_n (pc := 44) (k0 := 0) E dX12_book_44 rfl rfl ?_
        refine z_dup (pc := 45) E dX12_book_45 rfl ?_
        refine gM_48 (pc := 46) (i := 0) E rfl wd_5_19 dX12_book_46 ?_
        refine z_iconst (pc := 49) (v := 1) E dX12_book_49 (by decide) ?_
        obtain ⟨v8, e_v8, hf⟩ := kL_e hf
        refine z_iadd (pc := 50) (v := v8) E dX12_book_50 e_v8 ?_
        obtain ⟨SM_9, e_SM_9, hf⟩ := kL_e hf
        refine pM_48 (pc := 51) (i := 0) (S1 := SM_9) E rfl e_SM_9 wd_5_19 dX12_book_51 ?_
        show zJ p l e rm_X12_book s m args below meth c (zQ G ct (some (.int r0)) [wM aM ct OM] A below args s 0 0) A G 2 0 0 [wM aM ct SM_9] [(0, .ref (aM 200)), (1, .int a1)] 54 []
        refine z_aload_n (pc := 54) (k0 := 0) E dX12_book_54 rfl rfl ?_
        refine gM_48 (pc := 55) (i := 0) E rfl wd_5_19 dX12_book_55 ?_
        cases hf
        exact z_iret E hr dX12_book_58
      · have hf := kB_t hf c5
        refine z_bipush (pc := 31) (v := (-4)) E dX12_book_31 (by decide) ?_
        cases hf
        exact z_iret E hr dX12_book_33
    · have hf := kB_t hf c4
      refine z_iconst (pc := 20) (v := (-1)) E dX12_book_20 (by decide) ?_
      cases hf
      exact z_iret E hr dX12_book_21
  · have hf := kB_t hf c1
    refine z_aload_n (pc := 5) (k0 := 0) E dX12_book_5 rfl rfl ?_
    refine z_iconst (pc := 6) (v := 0) E dX12_book_6 (by decide) ?_
    obtain ⟨SM_10, e_SM_10, hf⟩ := kL_e hf
    refine pM_48 (pc := 7) (i := 0) (S1 := SM_10) E rfl e_SM_10 wd_5_19 dX12_book_7 ?_
    show zJ p l e rm_X12_book s m args below meth c (zQ G ct (some (.int r0)) [wM aM ct OM] A below args s 0 0) A G 2 0 0 [wM aM ct SM_10] [(0, .ref (aM 200)), (1, .int a1)] 10 []
    refine z_iconst (pc := 10) (v := 0) E dX12_book_10 (by decide) ?_
    cases hf
    exact z_iret E hr dX12_book_11
noncomputable def f_X12_looked_l9 (N : Nat) : Nat → zMS → Int32 → Int32 → Option (Int32 × zMS) := fun n => Nat.rec (motive := fun _ => zMS → Int32 → Int32 → Option (Int32 × zMS)) (fun _ _ _ => none) (fun _ ih SM x1 x2 => kB ((SM.1 48) ≤ x2) (kC (f_X12_putBack N SM) (fun SM_4 => some (x1, SM_4))) (kB (0 ≤ x1) (kC (f_X12_putBack N SM) (fun SM_7 => some (x1, SM_7))) (kC (f_X12_isOver N SM) (fun r9 => kB (r9 = 0) (kO (¬ (x2 < 0 ∨ 12 ≤ Int32.toNatClampNeg x2)) (kD (f_X12_goAsk N SM (SM.2.1 49 (Int32.toNatClampNeg x2))) (fun r14 SM_15 => kB (r14 = 0) (kL (x2 + 1) (fun v18 => ih SM_15 x2 v18)) (kL (x2 + 1) (fun v19 => ih SM_15 (-5) v19))))) (kL (x2 + 1) (fun v12 => ih SM x2 v12)))))) n
theorem f_X12_looked_l9_z (N : Nat) (SM : zMS) (x1 : Int32) (x2 : Int32) : f_X12_looked_l9 N 0 SM x1 x2 = none := rfl
theorem f_X12_looked_l9_s (N : Nat) (n : Nat) (SM : zMS) (x1 : Int32) (x2 : Int32) : f_X12_looked_l9 N (n + 1) SM x1 x2 = kB ((SM.1 48) ≤ x2) (kC (f_X12_putBack N SM) (fun SM_4 => some (x1, SM_4))) (kB (0 ≤ x1) (kC (f_X12_putBack N SM) (fun SM_7 => some (x1, SM_7))) (kC (f_X12_isOver N SM) (fun r9 => kB (r9 = 0) (kO (¬ (x2 < 0 ∨ 12 ≤ Int32.toNatClampNeg x2)) (kD (f_X12_goAsk N SM (SM.2.1 49 (Int32.toNatClampNeg x2))) (fun r14 SM_15 => kB (r14 = 0) (kL (x2 + 1) (fun v18 => (f_X12_looked_l9 N n) SM_15 x2 v18)) (kL (x2 + 1) (fun v19 => (f_X12_looked_l9 N n) SM_15 (-5) v19))))) (kL (x2 + 1) (fun v12 => (f_X12_looked_l9 N n) SM x2 v12))))) := rfl
noncomputable def f_X12_looked (N : Nat) (SM : zMS) : Option (Int32 × zMS) := kC (f_X12_save N SM) (fun SM_1 => f_X12_looked_l9 N N SM_1 (-5) 0)
theorem wv_X12_looked : zWV RX12 yX12_looked cX12_looked 3 (some .int) 0 := ⟨wd_42_16, wd_42_17, wd_1_5, wd_42_18, by decide +kernel⟩
def rm_X12_looked : Room := { frames := 7, cells := 0, slots := 0, locals := 152 }
set_option maxHeartbeats 4000000 in
set_option maxRecDepth 100000 in
theorem c_X12_looked {l : Launch} {G : va_G} {ct : Nat → ClassId} {aM : Nat → Nat} {N : Nat} {SM : zMS} {r0 : Int32} {OM : zMS} (hf : f_X12_looked N SM = some (r0, OM)) : zC l yX12_looked cX12_looked 3 (some .int) rm_X12_looked G ct [.ref (aM 200)] [wM aM ct SM] [wM aM ct OM] (some (.int r0)) 0 0 := by
  refine z_enter (own := RX12) (lv := [(0, .ref (aM 200))]) (by decide) rfl (Nat.le_of_ble_eq_true rfl) rfl ?_
  intro p e s m args below meth c A E hr hnm
  have L9 : ∀ (n9 : Nat) (SM : zMS) (x1 : Int32) (x2 : Int32), f_X12_looked_l9 N n9 SM x1 x2 = some (r0, OM) → zJ p l e rm_X12_looked s m args below meth c (zQ G ct (some (.int r0)) [wM aM ct OM] A below args s 0 0) A G 3 0 0 [wM aM ct SM] [(0, .ref (aM 200)), (1, .int x1), (2, .int x2)] 9 [] := by
    intro n9
    induction n9 with
    | zero =>
      intro SM x1 x2 hf
      rw [f_X12_looked_l9_z] at hf
      cases hf
    | succ n9 ih9 =>
      intro SM x1 x2 hf
      rw [f_X12_looked_l9_s] at hf
      refine z_iload_n (pc := 9) (k0 := 2) E dX12_looked_9 rfl rfl ?_
      refine z_aload_n (pc := 10) (k0 := 0) E dX12_looked_10 rfl rfl ?_
      refine gM_48 (pc := 11) (i := 0) E rfl wd_5_19 dX12_looked_11 ?_
      refine z_icmp_ge (pc := 14) (tgt := 54) E dX12_looked_14 (by decide) (fun c3 => ?_) (fun c3 => ?_)
      · have hf := kB_t hf c3
        refine z_aload_n (pc := 54) (k0 := 0) E dX12_looked_54 rfl rfl ?_
        obtain ⟨SM_4, h5, hf⟩ := kC_e hf
        refine z_callV0 (pc := 55) (is := [0]) (n := 0) (As := []) (st := []) (st' := []) (C2 := [wM aM ct SM_4]) E (c_X12_putBack (l := l) (G := G) (ct := ct) (aM := aM) h5) wv_X12_putBack wd_34_13 ⟨Nat.le_of_ble_eq_true rfl, Nat.le_of_ble_eq_true rfl, Nat.le_of_ble_eq_true rfl, Nat.le_of_ble_eq_true rfl⟩ rfl rfl rfl (by decide) rfl rfl (zrM (j := 0) rfl) rfl (Nat.le_of_ble_eq_true rfl) dX12_looked_55 rfl rfl ?_
        refine z_iload_n (pc := 58) (k0 := 1) E dX12_looked_58 rfl rfl ?_
        cases hf
        exact z_iret E hr dX12_looked_59
      · have hf := kB_f hf c3
        refine z_iload_n (pc := 17) (k0 := 1) E dX12_looked_17 rfl rfl ?_
        refine z_if_ge (pc := 18) (tgt := 54) E dX12_looked_18 (by decide) (fun c6 => ?_) (fun c6 => ?_)
        · have hf := kB_t hf c6
          refine z_aload_n (pc := 54) (k0 := 0) E dX12_looked_54 rfl rfl ?_
          obtain ⟨SM_7, h8, hf⟩ := kC_e hf
          refine z_callV0 (pc := 55) (is := [0]) (n := 0) (As := []) (st := []) (st' := []) (C2 := [wM aM ct SM_7]) E (c_X12_putBack (l := l) (G := G) (ct := ct) (aM := aM) h8) wv_X12_putBack wd_34_13 ⟨Nat.le_of_ble_eq_true rfl, Nat.le_of_ble_eq_true rfl, Nat.le_of_ble_eq_true rfl, Nat.le_of_ble_eq_true rfl⟩ rfl rfl rfl (by decide) rfl rfl (zrM (j := 0) rfl) rfl (Nat.le_of_ble_eq_true rfl) dX12_looked_55 rfl rfl ?_
          refine z_iload_n (pc := 58) (k0 := 1) E dX12_looked_58 rfl rfl ?_
          cases hf
          exact z_iret E hr dX12_looked_59
        · have hf := kB_f hf c6
          refine z_aload_n (pc := 21) (k0 := 0) E dX12_looked_21 rfl rfl ?_
          obtain ⟨r9, h10, hf⟩ := kC_e hf
          refine z_callV0 (pc := 22) (is := [0]) (n := 0) (As := []) (st := []) (st' := [.int r9]) (C2 := [wM aM ct SM]) E (c_X12_isOver (l := l) (G := G) (ct := ct) (aM := aM) h10) wv_X12_isOver wd_30_12 ⟨Nat.le_of_ble_eq_true rfl, Nat.le_of_ble_eq_true rfl, Nat.le_of_ble_eq_true rfl, Nat.le_of_ble_eq_true rfl⟩ rfl rfl rfl (by decide) rfl rfl (zrM (j := 0) rfl) rfl (Nat.le_of_ble_eq_true rfl) dX12_looked_22 rfl rfl ?_
          refine z_if_ne (pc := 25) (tgt := 46) E dX12_looked_25 (by decide) (fun c11 => ?_) (fun c11 => ?_)
          · have hf := kB_f hf c11
            refine z_iload_n (pc := 46) (k0 := 2) E dX12_looked_46 rfl rfl ?_
            refine z_istore_n (pc := 47) (lv' := [(1, .int x2), (0, .ref (aM 200)), (2, .int x2)]) E dX12_looked_47 rfl (by decide) rfl ?_
            obtain ⟨v12, e_v12, hf⟩ := kL_e hf
            refine z_iinc (pc := 48) (k0 := 2) (v := v12) (lv' := [(2, .int v12), (1, .int x2), (0, .ref (aM 200))]) E dX12_looked_48 rfl e_v12 (by decide) rfl ?_
            refine z_goto (pc := 51) (tgt := 9) E dX12_looked_51 (by decide) ?_
            refine z_sub [2, 1, 0] (lv' := [(0, .ref (aM 200)), (1, .int x2), (2, .int v12)]) rfl ?_
            exact ih9 SM x2 v12 hf
          · have hf := kB_t hf c11
            refine z_aload_n (pc := 28) (k0 := 0) E dX12_looked_28 rfl rfl ?_
            refine z_aload_n (pc := 29) (k0 := 0) E dX12_looked_29 rfl rfl ?_
            refine gM_49 (pc := 30) (i := 0) E rfl wd_5_20 dX12_looked_30 ?_
            refine z_iload_n (pc := 33) (k0 := 2) E dX12_looked_33 rfl rfl ?_
            obtain ⟨c13, hf⟩ := kO_e hf
            refine lM_49 (pc := 34) (i := 0) E rfl c13 dX12_looked_34 ?_
            obtain ⟨r14, SM_15, h16, hf⟩ := kD_e hf
            refine z_callV0 (pc := 35) (is := [0]) (n := 1) (As := [.int (SM.2.1 49 (Int32.toNatClampNeg x2))]) (st := []) (st' := [.int r14]) (C2 := [wM aM ct SM_15]) E (c_X12_goAsk (l := l) (G := G) (ct := ct) (aM := aM) h16) wv_X12_goAsk wd_30_16 ⟨Nat.le_of_ble_eq_true rfl, Nat.le_of_ble_eq_true rfl, Nat.le_of_ble_eq_true rfl, Nat.le_of_ble_eq_true rfl⟩ rfl rfl rfl (by decide) rfl rfl (zrM (j := 0) rfl) rfl (Nat.le_of_ble_eq_true rfl) dX12_looked_35 rfl rfl ?_
            refine z_if_eq (pc := 38) (tgt := 46) E dX12_looked_38 (by decide) (fun c17 => ?_) (fun c17 => ?_)
            · have hf := kB_t hf c17
              refine z_iload_n (pc := 46) (k0 := 2) E dX12_looked_46 rfl rfl ?_
              refine z_istore_n (pc := 47) (lv' := [(1, .int x2), (0, .ref (aM 200)), (2, .int x2)]) E dX12_looked_47 rfl (by decide) rfl ?_
              obtain ⟨v18, e_v18, hf⟩ := kL_e hf
              refine z_iinc (pc := 48) (k0 := 2) (v := v18) (lv' := [(2, .int v18), (1, .int x2), (0, .ref (aM 200))]) E dX12_looked_48 rfl e_v18 (by decide) rfl ?_
              refine z_goto (pc := 51) (tgt := 9) E dX12_looked_51 (by decide) ?_
              refine z_sub [2, 1, 0] (lv' := [(0, .ref (aM 200)), (1, .int x2), (2, .int v18)]) rfl ?_
              exact ih9 SM_15 x2 v18 hf
            · have hf := kB_f hf c17
              refine z_bipush (pc := 41) (v := (-5)) E dX12_looked_41 (by decide) ?_
              refine z_goto (pc := 43) (tgt := 47) E dX12_looked_43 (by decide) ?_
              refine z_istore_n (pc := 47) (lv' := [(1, .int (-5)), (0, .ref (aM 200)), (2, .int x2)]) E dX12_looked_47 rfl (by decide) rfl ?_
              obtain ⟨v19, e_v19, hf⟩ := kL_e hf
              refine z_iinc (pc := 48) (k0 := 2) (v := v19) (lv' := [(2, .int v19), (1, .int (-5)), (0, .ref (aM 200))]) E dX12_looked_48 rfl e_v19 (by decide) rfl ?_
              refine z_goto (pc := 51) (tgt := 9) E dX12_looked_51 (by decide) ?_
              refine z_sub [2, 1, 0] (lv' := [(0, .ref (aM 200)), (1, .int (-5)), (2, .int v19)]) rfl ?_
              exact ih9 SM_15 (-5) v19 hf
  unfold f_X12_looked at hf
  refine z_aload_n (pc := 0) (k0 := 0) E dX12_looked_0 rfl rfl ?_
  obtain ⟨SM_1, h2, hf⟩ := kC_e hf
  refine z_callV0 (pc := 1) (is := [0]) (n := 0) (As := []) (st := []) (st' := []) (C2 := [wM aM ct SM_1]) E (c_X12_save (l := l) (G := G) (ct := ct) (aM := aM) h2) wv_X12_save wd_34_5 ⟨Nat.le_of_ble_eq_true rfl, Nat.le_of_ble_eq_true rfl, Nat.le_of_ble_eq_true rfl, Nat.le_of_ble_eq_true rfl⟩ rfl rfl rfl (by decide) rfl rfl (zrM (j := 0) rfl) rfl (Nat.le_of_ble_eq_true rfl) dX12_looked_1 rfl rfl ?_
  refine z_bipush (pc := 4) (v := (-5)) E dX12_looked_4 (by decide) ?_
  refine z_istore_n (pc := 6) (lv' := [(1, .int (-5)), (0, .ref (aM 200))]) E dX12_looked_6 rfl (by decide) rfl ?_
  refine z_iconst (pc := 7) (v := 0) E dX12_looked_7 (by decide) ?_
  refine z_istore_n (pc := 8) (lv' := [(2, .int 0), (1, .int (-5)), (0, .ref (aM 200))]) E dX12_looked_8 rfl (by decide) rfl ?_
  refine z_sub [2, 1, 0] (lv' := [(0, .ref (aM 200)), (1, .int (-5)), (2, .int 0)]) rfl ?_
  exact L9 N SM_1 (-5) 0 hf
noncomputable def f_X12_isTape (SM : zMS) (a1 : Int32) : Option Int32 := kC (f_X12_in SM a1 0 5) (fun r1 => kO (r1 = 0 ∨ r1 = 1) (some (r1)))
theorem wv_X12_isTape : zWV RX12 yX12_isTape cX12_isTape 2 (some .boolean) 1 := ⟨wd_43_8, wd_43_9, wd_1_5, wd_43_10, by decide +kernel⟩
def rm_X12_isTape : Room := { frames := 1, cells := 0, slots := 0, locals := 23 }
set_option maxHeartbeats 4000000 in
set_option maxRecDepth 100000 in
theorem c_X12_isTape {l : Launch} {G : va_G} {ct : Nat → ClassId} {aM : Nat → Nat} {SM : zMS} {a1 : Int32} {r0 : Int32} (hf : f_X12_isTape SM a1 = some r0) : zC l yX12_isTape cX12_isTape 2 (some .boolean) rm_X12_isTape G ct [.ref (aM 200), .int a1] [wM aM ct SM] [wM aM ct SM] (some (.int r0)) 0 0 := by
  refine z_enter (own := RX12) (lv := [(0, .ref (aM 200)), (1, .int a1)]) (by decide) rfl (Nat.le_of_ble_eq_true rfl) rfl ?_
  intro p e s m args below meth c A E hr hnm
  unfold f_X12_isTape at hf
  refine z_aload_n (pc := 0) (k0 := 0) E dX12_isTape_0 rfl rfl ?_
  refine z_iload_n (pc := 1) (k0 := 1) E dX12_isTape_1 rfl rfl ?_
  refine z_iconst (pc := 2) (v := 0) E dX12_isTape_2 (by decide) ?_
  refine z_iconst (pc := 3) (v := 5) E dX12_isTape_3 (by decide) ?_
  obtain ⟨r1, h2, hf⟩ := kC_e hf
  refine z_callV0 (pc := 4) (is := [0]) (n := 3) (As := [.int a1, .int 0, .int 5]) (st := []) (st' := [.int r1]) (C2 := [wM aM ct SM]) E (c_X12_in (l := l) (G := G) (ct := ct) (aM := aM) h2) wv_X12_in wd_7_11 ⟨Nat.le_of_ble_eq_true rfl, Nat.le_of_ble_eq_true rfl, Nat.le_of_ble_eq_true rfl, Nat.le_of_ble_eq_true rfl⟩ rfl rfl rfl (by decide) rfl rfl (zrM (j := 0) rfl) rfl (Nat.le_of_ble_eq_true rfl) dX12_isTape_4 rfl rfl ?_
  obtain ⟨c3, hf⟩ := kO_e hf
  cases hf
  exact z_zret E hr c3 dX12_isTape_7
noncomputable def f_X12_judge_l34 (N : Nat) (SM : zMS) : Nat → Int32 → Int32 → Int32 → Option Int32 := fun n => Nat.rec (motive := fun _ => Int32 → Int32 → Int32 → Option Int32) (fun _ _ _ => none) (fun _ ih x1 x2 x3 => kB ((SM.1 0) ≤ x3) (some ((-5))) (kO (¬ (x1 < 0 ∨ 6 ≤ Int32.toNatClampNeg x1)) (kB ((SM.2.1 72 (Int32.toNatClampNeg x1)) < 0) (kL ((100 : Int32) + x3) (fun v11 => some (v11))) (kB (x2 < 0) (kL ((100 : Int32) + x3) (fun v13 => some (v13))) (kO (¬ (x1 < 0 ∨ 6 ≤ Int32.toNatClampNeg x1)) (kL ((SM.2.1 73 (Int32.toNatClampNeg x1)) - x3) (fun v15 => kL (v15 - 1) (fun v16 => kB (x2 ≤ v16) (kL ((60 : Int32) * x1) (fun v18 => kL (v18 + x2) (fun v19 => kL (v19 + x3) (fun v20 => kO (¬ (v20 < 0 ∨ 360 ≤ Int32.toNatClampNeg v20)) (kO (¬ (x3 < 0 ∨ 7 ≤ Int32.toNatClampNeg x3)) (kL ((SM.2.1 10 (Int32.toNatClampNeg x3)).toInt64) (fun v23 => kL (lg_cmp (SM.2.2 74 (Int32.toNatClampNeg v20)) v23) (fun v24 => kB (v24 = 0) (kL (x3 + 1) (fun v26 => ih x1 x2 v26)) (some (x3)))))))))) (kL ((100 : Int32) + x3) (fun v27 => some (v27))))))))))) n
theorem f_X12_judge_l34_z (N : Nat) (SM : zMS) (x1 : Int32) (x2 : Int32) (x3 : Int32) : f_X12_judge_l34 N SM 0 x1 x2 x3 = none := rfl
theorem f_X12_judge_l34_s (N : Nat) (SM : zMS) (n : Nat) (x1 : Int32) (x2 : Int32) (x3 : Int32) : f_X12_judge_l34 N SM (n + 1) x1 x2 x3 = kB ((SM.1 0) ≤ x3) (some ((-5))) (kO (¬ (x1 < 0 ∨ 6 ≤ Int32.toNatClampNeg x1)) (kB ((SM.2.1 72 (Int32.toNatClampNeg x1)) < 0) (kL ((100 : Int32) + x3) (fun v11 => some (v11))) (kB (x2 < 0) (kL ((100 : Int32) + x3) (fun v13 => some (v13))) (kO (¬ (x1 < 0 ∨ 6 ≤ Int32.toNatClampNeg x1)) (kL ((SM.2.1 73 (Int32.toNatClampNeg x1)) - x3) (fun v15 => kL (v15 - 1) (fun v16 => kB (x2 ≤ v16) (kL ((60 : Int32) * x1) (fun v18 => kL (v18 + x2) (fun v19 => kL (v19 + x3) (fun v20 => kO (¬ (v20 < 0 ∨ 360 ≤ Int32.toNatClampNeg v20)) (kO (¬ (x3 < 0 ∨ 7 ≤ Int32.toNatClampNeg x3)) (kL ((SM.2.1 10 (Int32.toNatClampNeg x3)).toInt64) (fun v23 => kL (lg_cmp (SM.2.2 74 (Int32.toNatClampNeg v20)) v23) (fun v24 => kB (v24 = 0) (kL (x3 + 1) (fun v26 => (f_X12_judge_l34 N SM n) x1 x2 v26)) (some (x3)))))))))) (kL ((100 : Int32) + x3) (fun v27 => some (v27)))))))))) := rfl
noncomputable def f_X12_judge (N : Nat) (SM : zMS) (a1 : Int32) (a2 : Int32) : Option Int32 := kC (f_X12_isTape SM a1) (fun r1 => kB (r1 = 0) (some ((-1))) (kO (¬ (a1 < 0 ∨ 6 ≤ Int32.toNatClampNeg a1)) (kB ((SM.2.1 72 (Int32.toNatClampNeg a1)) < 0) (f_X12_judge_l34 N SM N a1 a2 0) (kO (¬ (a1 < 0 ∨ 6 ≤ Int32.toNatClampNeg a1)) (kB ((SM.2.1 72 (Int32.toNatClampNeg a1)) = 3) (f_X12_judge_l34 N SM N a1 a2 0) (some ((-12))))))))
theorem wv_X12_judge : zWV RX12 yX12_judge cX12_judge 4 (some .int) 2 := ⟨wd_43_4, wd_43_5, wd_1_5, wd_43_6, by decide +kernel⟩
def rm_X12_judge : Room := { frames := 2, cells := 0, slots := 0, locals := 44 }
set_option maxHeartbeats 4000000 in
set_option maxRecDepth 100000 in
theorem c_X12_judge {l : Launch} {G : va_G} {ct : Nat → ClassId} {aM : Nat → Nat} {N : Nat} {SM : zMS} {a1 : Int32} {a2 : Int32} {r0 : Int32} (hf : f_X12_judge N SM a1 a2 = some r0) : zC l yX12_judge cX12_judge 4 (some .int) rm_X12_judge G ct [.ref (aM 200), .int a1, .int a2] [wM aM ct SM] [wM aM ct SM] (some (.int r0)) 0 0 := by
  refine z_enter (own := RX12) (lv := [(0, .ref (aM 200)), (1, .int a1), (2, .int a2)]) (by decide) rfl (Nat.le_of_ble_eq_true rfl) rfl ?_
  intro p e s m args below meth c A E hr hnm
  have L34 : ∀ (n34 : Nat) (x1 : Int32) (x2 : Int32) (x3 : Int32), f_X12_judge_l34 N SM n34 x1 x2 x3 = some r0 → zJ p l e rm_X12_judge s m args below meth c (zQ G ct (some (.int r0)) [wM aM ct SM] A below args s 0 0) A G 4 0 0 [wM aM ct SM] [(0, .ref (aM 200)), (1, .int x1), (2, .int x2), (3, .int x3)] 34 [] := by
    intro n34
    induction n34 with
    | zero =>
      intro x1 x2 x3 hf
      rw [f_X12_judge_l34_z] at hf
      cases hf
    | succ n34 ih34 =>
      intro x1 x2 x3 hf
      rw [f_X12_judge_l34_s] at hf
      refine z_iload_n (pc := 34) (k0 := 3) E dX12_judge_34 rfl rfl ?_
      refine z_aload_n (pc := 35) (k0 := 0) E dX12_judge_35 rfl rfl ?_
      refine gM_0 (pc := 36) (i := 0) E rfl wd_3_19 dX12_judge_36 ?_
      refine z_icmp_ge (pc := 39) (tgt := 106) E dX12_judge_39 (by decide) (fun c8 => ?_) (fun c8 => ?_)
      · have hf := kB_t hf c8
        refine z_bipush (pc := 106) (v := (-5)) E dX12_judge_106 (by decide) ?_
        cases hf
        exact z_iret E hr dX12_judge_108
      · have hf := kB_f hf c8
        refine z_aload_n (pc := 42) (k0 := 0) E dX12_judge_42 rfl rfl ?_
        refine gM_72 (pc := 43) (i := 0) E rfl wd_6_19 dX12_judge_43 ?_
        refine z_iload_n (pc := 46) (k0 := 1) E dX12_judge_46 rfl rfl ?_
        obtain ⟨c9, hf⟩ := kO_e hf
        refine lM_72 (pc := 47) (i := 0) E rfl c9 dX12_judge_47 ?_
        refine z_if_lt (pc := 48) (tgt := 69) E dX12_judge_48 (by decide) (fun c10 => ?_) (fun c10 => ?_)
        · have hf := kB_t hf c10
          refine z_bipush (pc := 69) (v := 100) E dX12_judge_69 (by decide) ?_
          refine z_iload_n (pc := 71) (k0 := 3) E dX12_judge_71 rfl rfl ?_
          obtain ⟨v11, e_v11, hf⟩ := kL_e hf
          refine z_iadd (pc := 72) (v := v11) E dX12_judge_72 e_v11 ?_
          cases hf
          exact z_iret E hr dX12_judge_73
        · have hf := kB_f hf c10
          refine z_iload_n (pc := 51) (k0 := 2) E dX12_judge_51 rfl rfl ?_
          refine z_if_lt (pc := 52) (tgt := 69) E dX12_judge_52 (by decide) (fun c12 => ?_) (fun c12 => ?_)
          · have hf := kB_t hf c12
            refine z_bipush (pc := 69) (v := 100) E dX12_judge_69 (by decide) ?_
            refine z_iload_n (pc := 71) (k0 := 3) E dX12_judge_71 rfl rfl ?_
            obtain ⟨v13, e_v13, hf⟩ := kL_e hf
            refine z_iadd (pc := 72) (v := v13) E dX12_judge_72 e_v13 ?_
            cases hf
            exact z_iret E hr dX12_judge_73
          · have hf := kB_f hf c12
            refine z_iload_n (pc := 55) (k0 := 2) E dX12_judge_55 rfl rfl ?_
            refine z_aload_n (pc := 56) (k0 := 0) E dX12_judge_56 rfl rfl ?_
            refine gM_73 (pc := 57) (i := 0) E rfl wd_6_20 dX12_judge_57 ?_
            refine z_iload_n (pc := 60) (k0 := 1) E dX12_judge_60 rfl rfl ?_
            obtain ⟨c14, hf⟩ := kO_e hf
            refine lM_73 (pc := 61) (i := 0) E rfl c14 dX12_judge_61 ?_
            refine z_iload_n (pc := 62) (k0 := 3) E dX12_judge_62 rfl rfl ?_
            obtain ⟨v15, e_v15, hf⟩ := kL_e hf
            refine z_isub (pc := 63) (v := v15) E dX12_judge_63 e_v15 ?_
            refine z_iconst (pc := 64) (v := 1) E dX12_judge_64 (by decide) ?_
            obtain ⟨v16, e_v16, hf⟩ := kL_e hf
            refine z_isub (pc := 65) (v := v16) E dX12_judge_65 e_v16 ?_
            refine z_icmp_le (pc := 66) (tgt := 74) E dX12_judge_66 (by decide) (fun c17 => ?_) (fun c17 => ?_)
            · have hf := kB_t hf c17
              refine z_aload_n (pc := 74) (k0 := 0) E dX12_judge_74 rfl rfl ?_
              refine gM_74 (pc := 75) (i := 0) E rfl wd_6_21 dX12_judge_75 ?_
              refine z_bipush (pc := 78) (v := 60) E dX12_judge_78 (by decide) ?_
              refine z_iload_n (pc := 80) (k0 := 1) E dX12_judge_80 rfl rfl ?_
              obtain ⟨v18, e_v18, hf⟩ := kL_e hf
              refine z_imul (pc := 81) (v := v18) E dX12_judge_81 e_v18 ?_
              refine z_iload_n (pc := 82) (k0 := 2) E dX12_judge_82 rfl rfl ?_
              obtain ⟨v19, e_v19, hf⟩ := kL_e hf
              refine z_iadd (pc := 83) (v := v19) E dX12_judge_83 e_v19 ?_
              refine z_iload_n (pc := 84) (k0 := 3) E dX12_judge_84 rfl rfl ?_
              obtain ⟨v20, e_v20, hf⟩ := kL_e hf
              refine z_iadd (pc := 85) (v := v20) E dX12_judge_85 e_v20 ?_
              obtain ⟨c21, hf⟩ := kO_e hf
              refine lM_74 (pc := 86) (i := 0) E rfl c21 dX12_judge_86 ?_
              refine z_aload_n (pc := 87) (k0 := 0) E dX12_judge_87 rfl rfl ?_
              refine gM_10 (pc := 88) (i := 0) E rfl wd_4_5 dX12_judge_88 ?_
              refine z_iload_n (pc := 91) (k0 := 3) E dX12_judge_91 rfl rfl ?_
              obtain ⟨c22, hf⟩ := kO_e hf
              refine lM_10 (pc := 92) (i := 0) E rfl c22 dX12_judge_92 ?_
              obtain ⟨v23, e_v23, hf⟩ := kL_e hf
              refine z_i2l (pc := 93) (v := v23) E dX12_judge_93 e_v23 ?_
              obtain ⟨v24, e_v24, hf⟩ := kL_e hf
              refine z_lcmp (pc := 94) (v := v24) E dX12_judge_94 e_v24 ?_
              refine z_if_eq (pc := 95) (tgt := 100) E dX12_judge_95 (by decide) (fun c25 => ?_) (fun c25 => ?_)
              · have hf := kB_t hf c25
                obtain ⟨v26, e_v26, hf⟩ := kL_e hf
                refine z_iinc (pc := 100) (k0 := 3) (v := v26) (lv' := [(3, .int v26), (0, .ref (aM 200)), (1, .int x1), (2, .int x2)]) E dX12_judge_100 rfl e_v26 (by decide) rfl ?_
                refine z_goto (pc := 103) (tgt := 34) E dX12_judge_103 (by decide) ?_
                refine z_sub [1, 2, 3, 0] (lv' := [(0, .ref (aM 200)), (1, .int x1), (2, .int x2), (3, .int v26)]) rfl ?_
                exact ih34 x1 x2 v26 hf
              · have hf := kB_f hf c25
                refine z_iload_n (pc := 98) (k0 := 3) E dX12_judge_98 rfl rfl ?_
                cases hf
                exact z_iret E hr dX12_judge_99
            · have hf := kB_f hf c17
              refine z_bipush (pc := 69) (v := 100) E dX12_judge_69 (by decide) ?_
              refine z_iload_n (pc := 71) (k0 := 3) E dX12_judge_71 rfl rfl ?_
              obtain ⟨v27, e_v27, hf⟩ := kL_e hf
              refine z_iadd (pc := 72) (v := v27) E dX12_judge_72 e_v27 ?_
              cases hf
              exact z_iret E hr dX12_judge_73
  unfold f_X12_judge at hf
  refine z_aload_n (pc := 0) (k0 := 0) E dX12_judge_0 rfl rfl ?_
  refine z_iload_n (pc := 1) (k0 := 1) E dX12_judge_1 rfl rfl ?_
  obtain ⟨r1, h2, hf⟩ := kC_e hf
  refine z_callV0 (pc := 2) (is := [0]) (n := 1) (As := [.int a1]) (st := []) (st' := [.int r1]) (C2 := [wM aM ct SM]) E (c_X12_isTape (l := l) (G := G) (ct := ct) (aM := aM) h2) wv_X12_isTape wd_43_7 ⟨Nat.le_of_ble_eq_true rfl, Nat.le_of_ble_eq_true rfl, Nat.le_of_ble_eq_true rfl, Nat.le_of_ble_eq_true rfl⟩ rfl rfl rfl (by decide) rfl rfl (zrM (j := 0) rfl) rfl (Nat.le_of_ble_eq_true rfl) dX12_judge_2 rfl rfl ?_
  refine z_if_ne (pc := 5) (tgt := 10) E dX12_judge_5 (by decide) (fun c3 => ?_) (fun c3 => ?_)
  · have hf := kB_f hf c3
    refine z_aload_n (pc := 10) (k0 := 0) E dX12_judge_10 rfl rfl ?_
    refine gM_72 (pc := 11) (i := 0) E rfl wd_6_19 dX12_judge_11 ?_
    refine z_iload_n (pc := 14) (k0 := 1) E dX12_judge_14 rfl rfl ?_
    obtain ⟨c4, hf⟩ := kO_e hf
    refine lM_72 (pc := 15) (i := 0) E rfl c4 dX12_judge_15 ?_
    refine z_if_lt (pc := 16) (tgt := 32) E dX12_judge_16 (by decide) (fun c5 => ?_) (fun c5 => ?_)
    · have hf := kB_t hf c5
      refine z_iconst (pc := 32) (v := 0) E dX12_judge_32 (by decide) ?_
      refine z_istore_n (pc := 33) (lv' := [(3, .int 0), (0, .ref (aM 200)), (1, .int a1), (2, .int a2)]) E dX12_judge_33 rfl (by decide) rfl ?_
      refine z_sub [1, 2, 3, 0] (lv' := [(0, .ref (aM 200)), (1, .int a1), (2, .int a2), (3, .int 0)]) rfl ?_
      exact L34 N a1 a2 0 hf
    · have hf := kB_f hf c5
      refine z_aload_n (pc := 19) (k0 := 0) E dX12_judge_19 rfl rfl ?_
      refine gM_72 (pc := 20) (i := 0) E rfl wd_6_19 dX12_judge_20 ?_
      refine z_iload_n (pc := 23) (k0 := 1) E dX12_judge_23 rfl rfl ?_
      obtain ⟨c6, hf⟩ := kO_e hf
      refine lM_72 (pc := 24) (i := 0) E rfl c6 dX12_judge_24 ?_
      refine z_iconst (pc := 25) (v := 3) E dX12_judge_25 (by decide) ?_
      refine z_icmp_eq (pc := 26) (tgt := 32) E dX12_judge_26 (by decide) (fun c7 => ?_) (fun c7 => ?_)
      · have hf := kB_t hf c7
        refine z_iconst (pc := 32) (v := 0) E dX12_judge_32 (by decide) ?_
        refine z_istore_n (pc := 33) (lv' := [(3, .int 0), (0, .ref (aM 200)), (1, .int a1), (2, .int a2)]) E dX12_judge_33 rfl (by decide) rfl ?_
        refine z_sub [1, 2, 3, 0] (lv' := [(0, .ref (aM 200)), (1, .int a1), (2, .int a2), (3, .int 0)]) rfl ?_
        exact L34 N a1 a2 0 hf
      · have hf := kB_f hf c7
        refine z_bipush (pc := 29) (v := (-12)) E dX12_judge_29 (by decide) ?_
        cases hf
        exact z_iret E hr dX12_judge_31
  · have hf := kB_t hf c3
    refine z_iconst (pc := 8) (v := (-1)) E dX12_judge_8 (by decide) ?_
    cases hf
    exact z_iret E hr dX12_judge_9
noncomputable def f_X12_image_l234 (N : Nat) : Nat → zMS → Int32 → Option (Int32 × zMS) := fun n => Nat.rec (motive := fun _ => zMS → Int32 → Option (Int32 × zMS)) (fun _ _ => none) (fun _ ih SM x1 => kB (12 ≤ x1) (some ((SM.1 1), SM)) (kO (¬ (x1 < 0 ∨ 12 ≤ Int32.toNatClampNeg x1)) (kO (¬ (x1 < 0 ∨ 12 ≤ Int32.toNatClampNeg x1)) (kL (mSA SM 68 (upd (SM.2.1 68) (Int32.toNatClampNeg x1) (SM.2.1 49 (Int32.toNatClampNeg x1)))) (fun SM_46 => kL (x1 + 1) (fun v47 => ih SM_46 v47)))))) n
theorem f_X12_image_l234_z (N : Nat) (SM : zMS) (x1 : Int32) : f_X12_image_l234 N 0 SM x1 = none := rfl
theorem f_X12_image_l234_s (N : Nat) (n : Nat) (SM : zMS) (x1 : Int32) : f_X12_image_l234 N (n + 1) SM x1 = kB (12 ≤ x1) (some ((SM.1 1), SM)) (kO (¬ (x1 < 0 ∨ 12 ≤ Int32.toNatClampNeg x1)) (kO (¬ (x1 < 0 ∨ 12 ≤ Int32.toNatClampNeg x1)) (kL (mSA SM 68 (upd (SM.2.1 68) (Int32.toNatClampNeg x1) (SM.2.1 49 (Int32.toNatClampNeg x1)))) (fun SM_46 => kL (x1 + 1) (fun v47 => (f_X12_image_l234 N n) SM_46 v47))))) := rfl
noncomputable def f_X12_image_l208 (N : Nat) : Nat → zMS → Int32 → Option (Int32 × zMS) := fun n => Nat.rec (motive := fun _ => zMS → Int32 → Option (Int32 × zMS)) (fun _ _ => none) (fun _ ih SM x1 => kB (8 ≤ x1) (f_X12_image_l234 N N SM 0) (kO (¬ (x1 < 0 ∨ 8 ≤ Int32.toNatClampNeg x1)) (kO (¬ (x1 < 0 ∨ 8 ≤ Int32.toNatClampNeg x1)) (kO ((SM.2.1 47 (Int32.toNatClampNeg x1)) = 0 ∨ (SM.2.1 47 (Int32.toNatClampNeg x1)) = 1) (kL (mSA SM 69 (upd (SM.2.1 69) (Int32.toNatClampNeg x1) (SM.2.1 47 (Int32.toNatClampNeg x1)))) (fun SM_41 => kL (x1 + 1) (fun v42 => ih SM_41 v42))))))) n
theorem f_X12_image_l208_z (N : Nat) (SM : zMS) (x1 : Int32) : f_X12_image_l208 N 0 SM x1 = none := rfl
theorem f_X12_image_l208_s (N : Nat) (n : Nat) (SM : zMS) (x1 : Int32) : f_X12_image_l208 N (n + 1) SM x1 = kB (8 ≤ x1) (f_X12_image_l234 N N SM 0) (kO (¬ (x1 < 0 ∨ 8 ≤ Int32.toNatClampNeg x1)) (kO (¬ (x1 < 0 ∨ 8 ≤ Int32.toNatClampNeg x1)) (kO ((SM.2.1 47 (Int32.toNatClampNeg x1)) = 0 ∨ (SM.2.1 47 (Int32.toNatClampNeg x1)) = 1) (kL (mSA SM 69 (upd (SM.2.1 69) (Int32.toNatClampNeg x1) (SM.2.1 47 (Int32.toNatClampNeg x1)))) (fun SM_41 => kL (x1 + 1) (fun v42 => (f_X12_image_l208 N n) SM_41 v42)))))) := rfl
noncomputable def f_X12_image_l182 (N : Nat) : Nat → zMS → Int32 → Option (Int32 × zMS) := fun n => Nat.rec (motive := fun _ => zMS → Int32 → Option (Int32 × zMS)) (fun _ _ => none) (fun _ ih SM x1 => kB (16 ≤ x1) (f_X12_image_l208 N N SM 0) (kO (¬ (x1 < 0 ∨ 16 ≤ Int32.toNatClampNeg x1)) (kO (¬ (x1 < 0 ∨ 16 ≤ Int32.toNatClampNeg x1)) (kL (mSA SM 67 (upd (SM.2.1 67) (Int32.toNatClampNeg x1) (SM.2.1 13 (Int32.toNatClampNeg x1)))) (fun SM_35 => kL (x1 + 1) (fun v36 => ih SM_35 v36)))))) n
theorem f_X12_image_l182_z (N : Nat) (SM : zMS) (x1 : Int32) : f_X12_image_l182 N 0 SM x1 = none := rfl
theorem f_X12_image_l182_s (N : Nat) (n : Nat) (SM : zMS) (x1 : Int32) : f_X12_image_l182 N (n + 1) SM x1 = kB (16 ≤ x1) (f_X12_image_l208 N N SM 0) (kO (¬ (x1 < 0 ∨ 16 ≤ Int32.toNatClampNeg x1)) (kO (¬ (x1 < 0 ∨ 16 ≤ Int32.toNatClampNeg x1)) (kL (mSA SM 67 (upd (SM.2.1 67) (Int32.toNatClampNeg x1) (SM.2.1 13 (Int32.toNatClampNeg x1)))) (fun SM_35 => kL (x1 + 1) (fun v36 => (f_X12_image_l182 N n) SM_35 v36))))) := rfl
noncomputable def f_X12_image_l145 (N : Nat) : Nat → zMS → Int32 → Option (Int32 × zMS) := fun n => Nat.rec (motive := fun _ => zMS → Int32 → Option (Int32 × zMS)) (fun _ _ => none) (fun _ ih SM x1 => kB (4 ≤ x1) (f_X12_image_l182 N N SM 0) (kO (¬ (x1 < 0 ∨ 4 ≤ Int32.toNatClampNeg x1)) (kO (¬ (x1 < 0 ∨ 4 ≤ Int32.toNatClampNeg x1)) (kL (mSA SM 65 (upd (SM.2.1 65) (Int32.toNatClampNeg x1) (SM.2.1 11 (Int32.toNatClampNeg x1)))) (fun SM_27 => kO (¬ (x1 < 0 ∨ 4 ≤ Int32.toNatClampNeg x1)) (kO (¬ (x1 < 0 ∨ 4 ≤ Int32.toNatClampNeg x1)) (kL (mSA SM_27 66 (upd (SM_27.2.1 66) (Int32.toNatClampNeg x1) (SM_27.2.1 12 (Int32.toNatClampNeg x1)))) (fun SM_30 => kL (x1 + 1) (fun v31 => ih SM_30 v31))))))))) n
theorem f_X12_image_l145_z (N : Nat) (SM : zMS) (x1 : Int32) : f_X12_image_l145 N 0 SM x1 = none := rfl
theorem f_X12_image_l145_s (N : Nat) (n : Nat) (SM : zMS) (x1 : Int32) : f_X12_image_l145 N (n + 1) SM x1 = kB (4 ≤ x1) (f_X12_image_l182 N N SM 0) (kO (¬ (x1 < 0 ∨ 4 ≤ Int32.toNatClampNeg x1)) (kO (¬ (x1 < 0 ∨ 4 ≤ Int32.toNatClampNeg x1)) (kL (mSA SM 65 (upd (SM.2.1 65) (Int32.toNatClampNeg x1) (SM.2.1 11 (Int32.toNatClampNeg x1)))) (fun SM_27 => kO (¬ (x1 < 0 ∨ 4 ≤ Int32.toNatClampNeg x1)) (kO (¬ (x1 < 0 ∨ 4 ≤ Int32.toNatClampNeg x1)) (kL (mSA SM_27 66 (upd (SM_27.2.1 66) (Int32.toNatClampNeg x1) (SM_27.2.1 12 (Int32.toNatClampNeg x1)))) (fun SM_30 => kL (x1 + 1) (fun v31 => (f_X12_image_l145 N n) SM_30 v31)))))))) := rfl
noncomputable def f_X12_image_l95 (N : Nat) : Nat → zMS → Int32 → Option (Int32 × zMS) := fun n => Nat.rec (motive := fun _ => zMS → Int32 → Option (Int32 × zMS)) (fun _ _ => none) (fun _ ih SM x1 => kB (7 ≤ x1) (f_X12_image_l145 N N SM 0) (kO (¬ (x1 < 0 ∨ 7 ≤ Int32.toNatClampNeg x1)) (kO (¬ (x1 < 0 ∨ 7 ≤ Int32.toNatClampNeg x1)) (kL (mSA SM 62 (upd (SM.2.1 62) (Int32.toNatClampNeg x1) (SM.2.1 8 (Int32.toNatClampNeg x1)))) (fun SM_16 => kO (¬ (x1 < 0 ∨ 7 ≤ Int32.toNatClampNeg x1)) (kO (¬ (x1 < 0 ∨ 7 ≤ Int32.toNatClampNeg x1)) (kL (mSA SM_16 63 (upd (SM_16.2.1 63) (Int32.toNatClampNeg x1) (SM_16.2.1 9 (Int32.toNatClampNeg x1)))) (fun SM_19 => kO (¬ (x1 < 0 ∨ 7 ≤ Int32.toNatClampNeg x1)) (kO (¬ (x1 < 0 ∨ 7 ≤ Int32.toNatClampNeg x1)) (kL (mSA SM_19 64 (upd (SM_19.2.1 64) (Int32.toNatClampNeg x1) (SM_19.2.1 10 (Int32.toNatClampNeg x1)))) (fun SM_22 => kL (x1 + 1) (fun v23 => ih SM_22 v23)))))))))))) n
theorem f_X12_image_l95_z (N : Nat) (SM : zMS) (x1 : Int32) : f_X12_image_l95 N 0 SM x1 = none := rfl
theorem f_X12_image_l95_s (N : Nat) (n : Nat) (SM : zMS) (x1 : Int32) : f_X12_image_l95 N (n + 1) SM x1 = kB (7 ≤ x1) (f_X12_image_l145 N N SM 0) (kO (¬ (x1 < 0 ∨ 7 ≤ Int32.toNatClampNeg x1)) (kO (¬ (x1 < 0 ∨ 7 ≤ Int32.toNatClampNeg x1)) (kL (mSA SM 62 (upd (SM.2.1 62) (Int32.toNatClampNeg x1) (SM.2.1 8 (Int32.toNatClampNeg x1)))) (fun SM_16 => kO (¬ (x1 < 0 ∨ 7 ≤ Int32.toNatClampNeg x1)) (kO (¬ (x1 < 0 ∨ 7 ≤ Int32.toNatClampNeg x1)) (kL (mSA SM_16 63 (upd (SM_16.2.1 63) (Int32.toNatClampNeg x1) (SM_16.2.1 9 (Int32.toNatClampNeg x1)))) (fun SM_19 => kO (¬ (x1 < 0 ∨ 7 ≤ Int32.toNatClampNeg x1)) (kO (¬ (x1 < 0 ∨ 7 ≤ Int32.toNatClampNeg x1)) (kL (mSA SM_19 64 (upd (SM_19.2.1 64) (Int32.toNatClampNeg x1) (SM_19.2.1 10 (Int32.toNatClampNeg x1)))) (fun SM_22 => kL (x1 + 1) (fun v23 => (f_X12_image_l95 N n) SM_22 v23))))))))))) := rfl
noncomputable def f_X12_image (N : Nat) (SM : zMS) : Option (Int32 × zMS) := kL (mSI SM 50 1) (fun SM_1 => kL (mSI SM_1 51 (SM_1.1 15)) (fun SM_2 => kL (mSI SM_2 52 (SM_2.1 0)) (fun SM_3 => kL (mSI SM_3 53 (SM_3.1 1)) (fun SM_4 => kL (mSI SM_4 54 (SM_4.1 2)) (fun SM_5 => kL (mSI SM_5 55 (SM_5.1 3)) (fun SM_6 => kL (mSI SM_6 56 (SM_6.1 4)) (fun SM_7 => kL (mSI SM_7 57 (SM_7.1 5)) (fun SM_8 => kL (mSI SM_8 58 (SM_8.1 6)) (fun SM_9 => kL (mSI SM_9 59 (SM_9.1 7)) (fun SM_10 => kL (mSI SM_10 60 (SM_10.1 46)) (fun SM_11 => kL (mSI SM_11 61 (SM_11.1 48)) (fun SM_12 => f_X12_image_l95 N N SM_12 0))))))))))))
theorem wv_X12_image : zWV RX12 yX12_image cX12_image 2 (some .int) 0 := ⟨wd_43_18, wd_43_19, wd_1_5, wd_43_20, by decide +kernel⟩
def rm_X12_image : Room := { frames := 0, cells := 0, slots := 0, locals := 0 }
set_option maxHeartbeats 4000000 in
set_option maxRecDepth 100000 in
theorem c_X12_image {l : Launch} {G : va_G} {ct : Nat → ClassId} {aM : Nat → Nat} {N : Nat} {SM : zMS} {r0 : Int32} {OM : zMS} (hf : f_X12_image N SM = some (r0, OM)) : zC l yX12_image cX12_image 2 (some .int) rm_X12_image G ct [.ref (aM 200)] [wM aM ct SM] [wM aM ct OM] (some (.int r0)) 0 0 := by
  refine z_enter (own := RX12) (lv := [(0, .ref (aM 200))]) (by decide) rfl (Nat.le_of_ble_eq_true rfl) rfl ?_
  intro p e s m args below meth c A E hr hnm
  have L234 : ∀ (n234 : Nat) (SM : zMS) (x1 : Int32), f_X12_image_l234 N n234 SM x1 = some (r0, OM) → zJ p l e rm_X12_image s m args below meth c (zQ G ct (some (.int r0)) [wM aM ct OM] A below args s 0 0) A G 2 0 0 [wM aM ct SM] [(0, .ref (aM 200)), (1, .int x1)] 234 [] := by
    intro n234
    induction n234 with
    | zero =>
      intro SM x1 hf
      rw [f_X12_image_l234_z] at hf
      cases hf
    | succ n234 ih234 =>
      intro SM x1 hf
      rw [f_X12_image_l234_s] at hf
      refine z_iload_n (pc := 234) (k0 := 1) E dX12_image_234 rfl rfl ?_
      refine z_bipush (pc := 235) (v := 12) E dX12_image_235 (by decide) ?_
      refine z_icmp_ge (pc := 237) (tgt := 258) E dX12_image_237 (by decide) (fun c43 => ?_) (fun c43 => ?_)
      · have hf := kB_t hf c43
        refine z_aload_n (pc := 258) (k0 := 0) E dX12_image_258 rfl rfl ?_
        refine gM_1 (pc := 259) (i := 0) E rfl wd_3_20 dX12_image_259 ?_
        cases hf
        exact z_iret E hr dX12_image_262
      · have hf := kB_f hf c43
        refine z_aload_n (pc := 240) (k0 := 0) E dX12_image_240 rfl rfl ?_
        refine gM_68 (pc := 241) (i := 0) E rfl wd_6_15 dX12_image_241 ?_
        refine z_iload_n (pc := 244) (k0 := 1) E dX12_image_244 rfl rfl ?_
        refine z_aload_n (pc := 245) (k0 := 0) E dX12_image_245 rfl rfl ?_
        refine gM_49 (pc := 246) (i := 0) E rfl wd_5_20 dX12_image_246 ?_
        refine z_iload_n (pc := 249) (k0 := 1) E dX12_image_249 rfl rfl ?_
        obtain ⟨c44, hf⟩ := kO_e hf
        refine lM_49 (pc := 250) (i := 0) E rfl c44 dX12_image_250 ?_
        obtain ⟨c45, hf⟩ := kO_e hf
        obtain ⟨SM_46, e_SM_46, hf⟩ := kL_e hf
        refine sM_68 (pc := 251) (i := 0) (S1 := SM_46) E rfl c45 e_SM_46 dX12_image_251 ?_
        show zJ p l e rm_X12_image s m args below meth c (zQ G ct (some (.int r0)) [wM aM ct OM] A below args s 0 0) A G 2 0 0 [wM aM ct SM_46] [(0, .ref (aM 200)), (1, .int x1)] 252 []
        obtain ⟨v47, e_v47, hf⟩ := kL_e hf
        refine z_iinc (pc := 252) (k0 := 1) (v := v47) (lv' := [(1, .int v47), (0, .ref (aM 200))]) E dX12_image_252 rfl e_v47 (by decide) rfl ?_
        refine z_goto (pc := 255) (tgt := 234) E dX12_image_255 (by decide) ?_
        refine z_sub [1, 0] (lv' := [(0, .ref (aM 200)), (1, .int v47)]) rfl ?_
        exact ih234 SM_46 v47 hf
  have L208 : ∀ (n208 : Nat) (SM : zMS) (x1 : Int32), f_X12_image_l208 N n208 SM x1 = some (r0, OM) → zJ p l e rm_X12_image s m args below meth c (zQ G ct (some (.int r0)) [wM aM ct OM] A below args s 0 0) A G 2 0 0 [wM aM ct SM] [(0, .ref (aM 200)), (1, .int x1)] 208 [] := by
    intro n208
    induction n208 with
    | zero =>
      intro SM x1 hf
      rw [f_X12_image_l208_z] at hf
      cases hf
    | succ n208 ih208 =>
      intro SM x1 hf
      rw [f_X12_image_l208_s] at hf
      refine z_iload_n (pc := 208) (k0 := 1) E dX12_image_208 rfl rfl ?_
      refine z_bipush (pc := 209) (v := 8) E dX12_image_209 (by decide) ?_
      refine z_icmp_ge (pc := 211) (tgt := 232) E dX12_image_211 (by decide) (fun c37 => ?_) (fun c37 => ?_)
      · have hf := kB_t hf c37
        refine z_iconst (pc := 232) (v := 0) E dX12_image_232 (by decide) ?_
        refine z_istore_n (pc := 233) (lv' := [(1, .int 0), (0, .ref (aM 200))]) E dX12_image_233 rfl (by decide) rfl ?_
        refine z_sub [1, 0] (lv' := [(0, .ref (aM 200)), (1, .int 0)]) rfl ?_
        exact L234 N SM 0 hf
      · have hf := kB_f hf c37
        refine z_aload_n (pc := 214) (k0 := 0) E dX12_image_214 rfl rfl ?_
        refine gM_69 (pc := 215) (i := 0) E rfl wd_6_16 dX12_image_215 ?_
        refine z_iload_n (pc := 218) (k0 := 1) E dX12_image_218 rfl rfl ?_
        refine z_aload_n (pc := 219) (k0 := 0) E dX12_image_219 rfl rfl ?_
        refine gM_47 (pc := 220) (i := 0) E rfl wd_5_18 dX12_image_220 ?_
        refine z_iload_n (pc := 223) (k0 := 1) E dX12_image_223 rfl rfl ?_
        obtain ⟨c38, hf⟩ := kO_e hf
        refine lM_47 (pc := 224) (i := 0) E rfl c38 dX12_image_224 ?_
        obtain ⟨c39, hf⟩ := kO_e hf
        obtain ⟨c40, hf⟩ := kO_e hf
        obtain ⟨SM_41, e_SM_41, hf⟩ := kL_e hf
        refine sM_69 (pc := 225) (i := 0) (S1 := SM_41) E rfl c39 c40 e_SM_41 dX12_image_225 ?_
        show zJ p l e rm_X12_image s m args below meth c (zQ G ct (some (.int r0)) [wM aM ct OM] A below args s 0 0) A G 2 0 0 [wM aM ct SM_41] [(0, .ref (aM 200)), (1, .int x1)] 226 []
        obtain ⟨v42, e_v42, hf⟩ := kL_e hf
        refine z_iinc (pc := 226) (k0 := 1) (v := v42) (lv' := [(1, .int v42), (0, .ref (aM 200))]) E dX12_image_226 rfl e_v42 (by decide) rfl ?_
        refine z_goto (pc := 229) (tgt := 208) E dX12_image_229 (by decide) ?_
        refine z_sub [1, 0] (lv' := [(0, .ref (aM 200)), (1, .int v42)]) rfl ?_
        exact ih208 SM_41 v42 hf
  have L182 : ∀ (n182 : Nat) (SM : zMS) (x1 : Int32), f_X12_image_l182 N n182 SM x1 = some (r0, OM) → zJ p l e rm_X12_image s m args below meth c (zQ G ct (some (.int r0)) [wM aM ct OM] A below args s 0 0) A G 2 0 0 [wM aM ct SM] [(0, .ref (aM 200)), (1, .int x1)] 182 [] := by
    intro n182
    induction n182 with
    | zero =>
      intro SM x1 hf
      rw [f_X12_image_l182_z] at hf
      cases hf
    | succ n182 ih182 =>
      intro SM x1 hf
      rw [f_X12_image_l182_s] at hf
      refine z_iload_n (pc := 182) (k0 := 1) E dX12_image_182 rfl rfl ?_
      refine z_bipush (pc := 183) (v := 16) E dX12_image_183 (by decide) ?_
      refine z_icmp_ge (pc := 185) (tgt := 206) E dX12_image_185 (by decide) (fun c32 => ?_) (fun c32 => ?_)
      · have hf := kB_t hf c32
        refine z_iconst (pc := 206) (v := 0) E dX12_image_206 (by decide) ?_
        refine z_istore_n (pc := 207) (lv' := [(1, .int 0), (0, .ref (aM 200))]) E dX12_image_207 rfl (by decide) rfl ?_
        refine z_sub [1, 0] (lv' := [(0, .ref (aM 200)), (1, .int 0)]) rfl ?_
        exact L208 N SM 0 hf
      · have hf := kB_f hf c32
        refine z_aload_n (pc := 188) (k0 := 0) E dX12_image_188 rfl rfl ?_
        refine gM_67 (pc := 189) (i := 0) E rfl wd_6_14 dX12_image_189 ?_
        refine z_iload_n (pc := 192) (k0 := 1) E dX12_image_192 rfl rfl ?_
        refine z_aload_n (pc := 193) (k0 := 0) E dX12_image_193 rfl rfl ?_
        refine gM_13 (pc := 194) (i := 0) E rfl wd_4_8 dX12_image_194 ?_
        refine z_iload_n (pc := 197) (k0 := 1) E dX12_image_197 rfl rfl ?_
        obtain ⟨c33, hf⟩ := kO_e hf
        refine lM_13 (pc := 198) (i := 0) E rfl c33 dX12_image_198 ?_
        obtain ⟨c34, hf⟩ := kO_e hf
        obtain ⟨SM_35, e_SM_35, hf⟩ := kL_e hf
        refine sM_67 (pc := 199) (i := 0) (S1 := SM_35) E rfl c34 e_SM_35 dX12_image_199 ?_
        show zJ p l e rm_X12_image s m args below meth c (zQ G ct (some (.int r0)) [wM aM ct OM] A below args s 0 0) A G 2 0 0 [wM aM ct SM_35] [(0, .ref (aM 200)), (1, .int x1)] 200 []
        obtain ⟨v36, e_v36, hf⟩ := kL_e hf
        refine z_iinc (pc := 200) (k0 := 1) (v := v36) (lv' := [(1, .int v36), (0, .ref (aM 200))]) E dX12_image_200 rfl e_v36 (by decide) rfl ?_
        refine z_goto (pc := 203) (tgt := 182) E dX12_image_203 (by decide) ?_
        refine z_sub [1, 0] (lv' := [(0, .ref (aM 200)), (1, .int v36)]) rfl ?_
        exact ih182 SM_35 v36 hf
  have L145 : ∀ (n145 : Nat) (SM : zMS) (x1 : Int32), f_X12_image_l145 N n145 SM x1 = some (r0, OM) → zJ p l e rm_X12_image s m args below meth c (zQ G ct (some (.int r0)) [wM aM ct OM] A below args s 0 0) A G 2 0 0 [wM aM ct SM] [(0, .ref (aM 200)), (1, .int x1)] 145 [] := by
    intro n145
    induction n145 with
    | zero =>
      intro SM x1 hf
      rw [f_X12_image_l145_z] at hf
      cases hf
    | succ n145 ih145 =>
      intro SM x1 hf
      rw [f_X12_image_l145_s] at hf
      refine z_iload_n (pc := 145) (k0 := 1) E dX12_image_145 rfl rfl ?_
      refine z_iconst (pc := 146) (v := 4) E dX12_image_146 (by decide) ?_
      refine z_icmp_ge (pc := 147) (tgt := 180) E dX12_image_147 (by decide) (fun c24 => ?_) (fun c24 => ?_)
      · have hf := kB_t hf c24
        refine z_iconst (pc := 180) (v := 0) E dX12_image_180 (by decide) ?_
        refine z_istore_n (pc := 181) (lv' := [(1, .int 0), (0, .ref (aM 200))]) E dX12_image_181 rfl (by decide) rfl ?_
        refine z_sub [1, 0] (lv' := [(0, .ref (aM 200)), (1, .int 0)]) rfl ?_
        exact L182 N SM 0 hf
      · have hf := kB_f hf c24
        refine z_aload_n (pc := 150) (k0 := 0) E dX12_image_150 rfl rfl ?_
        refine gM_65 (pc := 151) (i := 0) E rfl wd_6_12 dX12_image_151 ?_
        refine z_iload_n (pc := 154) (k0 := 1) E dX12_image_154 rfl rfl ?_
        refine z_aload_n (pc := 155) (k0 := 0) E dX12_image_155 rfl rfl ?_
        refine gM_11 (pc := 156) (i := 0) E rfl wd_4_6 dX12_image_156 ?_
        refine z_iload_n (pc := 159) (k0 := 1) E dX12_image_159 rfl rfl ?_
        obtain ⟨c25, hf⟩ := kO_e hf
        refine lM_11 (pc := 160) (i := 0) E rfl c25 dX12_image_160 ?_
        obtain ⟨c26, hf⟩ := kO_e hf
        obtain ⟨SM_27, e_SM_27, hf⟩ := kL_e hf
        refine sM_65 (pc := 161) (i := 0) (S1 := SM_27) E rfl c26 e_SM_27 dX12_image_161 ?_
        show zJ p l e rm_X12_image s m args below meth c (zQ G ct (some (.int r0)) [wM aM ct OM] A below args s 0 0) A G 2 0 0 [wM aM ct SM_27] [(0, .ref (aM 200)), (1, .int x1)] 162 []
        refine z_aload_n (pc := 162) (k0 := 0) E dX12_image_162 rfl rfl ?_
        refine gM_66 (pc := 163) (i := 0) E rfl wd_6_13 dX12_image_163 ?_
        refine z_iload_n (pc := 166) (k0 := 1) E dX12_image_166 rfl rfl ?_
        refine z_aload_n (pc := 167) (k0 := 0) E dX12_image_167 rfl rfl ?_
        refine gM_12 (pc := 168) (i := 0) E rfl wd_4_7 dX12_image_168 ?_
        refine z_iload_n (pc := 171) (k0 := 1) E dX12_image_171 rfl rfl ?_
        obtain ⟨c28, hf⟩ := kO_e hf
        refine lM_12 (pc := 172) (i := 0) E rfl c28 dX12_image_172 ?_
        obtain ⟨c29, hf⟩ := kO_e hf
        obtain ⟨SM_30, e_SM_30, hf⟩ := kL_e hf
        refine sM_66 (pc := 173) (i := 0) (S1 := SM_30) E rfl c29 e_SM_30 dX12_image_173 ?_
        show zJ p l e rm_X12_image s m args below meth c (zQ G ct (some (.int r0)) [wM aM ct OM] A below args s 0 0) A G 2 0 0 [wM aM ct SM_30] [(0, .ref (aM 200)), (1, .int x1)] 174 []
        obtain ⟨v31, e_v31, hf⟩ := kL_e hf
        refine z_iinc (pc := 174) (k0 := 1) (v := v31) (lv' := [(1, .int v31), (0, .ref (aM 200))]) E dX12_image_174 rfl e_v31 (by decide) rfl ?_
        refine z_goto (pc := 177) (tgt := 145) E dX12_image_177 (by decide) ?_
        refine z_sub [1, 0] (lv' := [(0, .ref (aM 200)), (1, .int v31)]) rfl ?_
        exact ih145 SM_30 v31 hf
  have L95 : ∀ (n95 : Nat) (SM : zMS) (x1 : Int32), f_X12_image_l95 N n95 SM x1 = some (r0, OM) → zJ p l e rm_X12_image s m args below meth c (zQ G ct (some (.int r0)) [wM aM ct OM] A below args s 0 0) A G 2 0 0 [wM aM ct SM] [(0, .ref (aM 200)), (1, .int x1)] 95 [] := by
    intro n95
    induction n95 with
    | zero =>
      intro SM x1 hf
      rw [f_X12_image_l95_z] at hf
      cases hf
    | succ n95 ih95 =>
      intro SM x1 hf
      rw [f_X12_image_l95_s] at hf
      refine z_iload_n (pc := 95) (k0 := 1) E dX12_image_95 rfl rfl ?_
      refine z_bipush (pc := 96) (v := 7) E dX12_image_96 (by decide) ?_
      refine z_icmp_ge (pc := 98) (tgt := 143) E dX12_image_98 (by decide) (fun c13 => ?_) (fun c13 => ?_)
      · have hf := kB_t hf c13
        refine z_iconst (pc := 143) (v := 0) E dX12_image_143 (by decide) ?_
        refine z_istore_n (pc := 144) (lv' := [(1, .int 0), (0, .ref (aM 200))]) E dX12_image_144 rfl (by decide) rfl ?_
        refine z_sub [1, 0] (lv' := [(0, .ref (aM 200)), (1, .int 0)]) rfl ?_
        exact L145 N SM 0 hf
      · have hf := kB_f hf c13
        refine z_aload_n (pc := 101) (k0 := 0) E dX12_image_101 rfl rfl ?_
        refine gM_62 (pc := 102) (i := 0) E rfl wd_6_9 dX12_image_102 ?_
        refine z_iload_n (pc := 105) (k0 := 1) E dX12_image_105 rfl rfl ?_
        refine z_aload_n (pc := 106) (k0 := 0) E dX12_image_106 rfl rfl ?_
        refine gM_8 (pc := 107) (i := 0) E rfl wd_4_3 dX12_image_107 ?_
        refine z_iload_n (pc := 110) (k0 := 1) E dX12_image_110 rfl rfl ?_
        obtain ⟨c14, hf⟩ := kO_e hf
        refine lM_8 (pc := 111) (i := 0) E rfl c14 dX12_image_111 ?_
        obtain ⟨c15, hf⟩ := kO_e hf
        obtain ⟨SM_16, e_SM_16, hf⟩ := kL_e hf
        refine sM_62 (pc := 112) (i := 0) (S1 := SM_16) E rfl c15 e_SM_16 dX12_image_112 ?_
        show zJ p l e rm_X12_image s m args below meth c (zQ G ct (some (.int r0)) [wM aM ct OM] A below args s 0 0) A G 2 0 0 [wM aM ct SM_16] [(0, .ref (aM 200)), (1, .int x1)] 113 []
        refine z_aload_n (pc := 113) (k0 := 0) E dX12_image_113 rfl rfl ?_
        refine gM_63 (pc := 114) (i := 0) E rfl wd_6_10 dX12_image_114 ?_
        refine z_iload_n (pc := 117) (k0 := 1) E dX12_image_117 rfl rfl ?_
        refine z_aload_n (pc := 118) (k0 := 0) E dX12_image_118 rfl rfl ?_
        refine gM_9 (pc := 119) (i := 0) E rfl wd_4_4 dX12_image_119 ?_
        refine z_iload_n (pc := 122) (k0 := 1) E dX12_image_122 rfl rfl ?_
        obtain ⟨c17, hf⟩ := kO_e hf
        refine lM_9 (pc := 123) (i := 0) E rfl c17 dX12_image_123 ?_
        obtain ⟨c18, hf⟩ := kO_e hf
        obtain ⟨SM_19, e_SM_19, hf⟩ := kL_e hf
        refine sM_63 (pc := 124) (i := 0) (S1 := SM_19) E rfl c18 e_SM_19 dX12_image_124 ?_
        show zJ p l e rm_X12_image s m args below meth c (zQ G ct (some (.int r0)) [wM aM ct OM] A below args s 0 0) A G 2 0 0 [wM aM ct SM_19] [(0, .ref (aM 200)), (1, .int x1)] 125 []
        refine z_aload_n (pc := 125) (k0 := 0) E dX12_image_125 rfl rfl ?_
        refine gM_64 (pc := 126) (i := 0) E rfl wd_6_11 dX12_image_126 ?_
        refine z_iload_n (pc := 129) (k0 := 1) E dX12_image_129 rfl rfl ?_
        refine z_aload_n (pc := 130) (k0 := 0) E dX12_image_130 rfl rfl ?_
        refine gM_10 (pc := 131) (i := 0) E rfl wd_4_5 dX12_image_131 ?_
        refine z_iload_n (pc := 134) (k0 := 1) E dX12_image_134 rfl rfl ?_
        obtain ⟨c20, hf⟩ := kO_e hf
        refine lM_10 (pc := 135) (i := 0) E rfl c20 dX12_image_135 ?_
        obtain ⟨c21, hf⟩ := kO_e hf
        obtain ⟨SM_22, e_SM_22, hf⟩ := kL_e hf
        refine sM_64 (pc := 136) (i := 0) (S1 := SM_22) E rfl c21 e_SM_22 dX12_image_136 ?_
        show zJ p l e rm_X12_image s m args below meth c (zQ G ct (some (.int r0)) [wM aM ct OM] A below args s 0 0) A G 2 0 0 [wM aM ct SM_22] [(0, .ref (aM 200)), (1, .int x1)] 137 []
        obtain ⟨v23, e_v23, hf⟩ := kL_e hf
        refine z_iinc (pc := 137) (k0 := 1) (v := v23) (lv' := [(1, .int v23), (0, .ref (aM 200))]) E dX12_image_137 rfl e_v23 (by decide) rfl ?_
        refine z_goto (pc := 140) (tgt := 95) E dX12_image_140 (by decide) ?_
        refine z_sub [1, 0] (lv' := [(0, .ref (aM 200)), (1, .int v23)]) rfl ?_
        exact ih95 SM_22 v23 hf
  unfold f_X12_image at hf
  refine z_aload_n (pc := 0) (k0 := 0) E dX12_image_0 rfl rfl ?_
  refine z_iconst (pc := 1) (v := 1) E dX12_image_1 (by decide) ?_
  obtain ⟨SM_1, e_SM_1, hf⟩ := kL_e hf
  refine pM_50 (pc := 2) (i := 0) (S1 := SM_1) E rfl (by decide) e_SM_1 wd_5_21 dX12_image_2 ?_
  show zJ p l e rm_X12_image s m args below meth c (zQ G ct (some (.int r0)) [wM aM ct OM] A below args s 0 0) A G 2 0 0 [wM aM ct SM_1] [(0, .ref (aM 200))] 5 []
  refine z_aload_n (pc := 5) (k0 := 0) E dX12_image_5 rfl rfl ?_
  refine z_aload_n (pc := 6) (k0 := 0) E dX12_image_6 rfl rfl ?_
  refine gM_15 (pc := 7) (i := 0) E rfl wd_4_10 dX12_image_7 ?_
  obtain ⟨SM_2, e_SM_2, hf⟩ := kL_e hf
  refine pM_51 (pc := 10) (i := 0) (S1 := SM_2) E rfl e_SM_2 wd_5_22 dX12_image_10 ?_
  show zJ p l e rm_X12_image s m args below meth c (zQ G ct (some (.int r0)) [wM aM ct OM] A below args s 0 0) A G 2 0 0 [wM aM ct SM_2] [(0, .ref (aM 200))] 13 []
  refine z_aload_n (pc := 13) (k0 := 0) E dX12_image_13 rfl rfl ?_
  refine z_aload_n (pc := 14) (k0 := 0) E dX12_image_14 rfl rfl ?_
  refine gM_0 (pc := 15) (i := 0) E rfl wd_3_19 dX12_image_15 ?_
  obtain ⟨SM_3, e_SM_3, hf⟩ := kL_e hf
  refine pM_52 (pc := 18) (i := 0) (S1 := SM_3) E rfl e_SM_3 wd_5_23 dX12_image_18 ?_
  show zJ p l e rm_X12_image s m args below meth c (zQ G ct (some (.int r0)) [wM aM ct OM] A below args s 0 0) A G 2 0 0 [wM aM ct SM_3] [(0, .ref (aM 200))] 21 []
  refine z_aload_n (pc := 21) (k0 := 0) E dX12_image_21 rfl rfl ?_
  refine z_aload_n (pc := 22) (k0 := 0) E dX12_image_22 rfl rfl ?_
  refine gM_1 (pc := 23) (i := 0) E rfl wd_3_20 dX12_image_23 ?_
  obtain ⟨SM_4, e_SM_4, hf⟩ := kL_e hf
  refine pM_53 (pc := 26) (i := 0) (S1 := SM_4) E rfl e_SM_4 wd_6_0 dX12_image_26 ?_
  show zJ p l e rm_X12_image s m args below meth c (zQ G ct (some (.int r0)) [wM aM ct OM] A below args s 0 0) A G 2 0 0 [wM aM ct SM_4] [(0, .ref (aM 200))] 29 []
  refine z_aload_n (pc := 29) (k0 := 0) E dX12_image_29 rfl rfl ?_
  refine z_aload_n (pc := 30) (k0 := 0) E dX12_image_30 rfl rfl ?_
  refine gM_2 (pc := 31) (i := 0) E rfl wd_3_21 dX12_image_31 ?_
  obtain ⟨SM_5, e_SM_5, hf⟩ := kL_e hf
  refine pM_54 (pc := 34) (i := 0) (S1 := SM_5) E rfl e_SM_5 wd_6_1 dX12_image_34 ?_
  show zJ p l e rm_X12_image s m args below meth c (zQ G ct (some (.int r0)) [wM aM ct OM] A below args s 0 0) A G 2 0 0 [wM aM ct SM_5] [(0, .ref (aM 200))] 37 []
  refine z_aload_n (pc := 37) (k0 := 0) E dX12_image_37 rfl rfl ?_
  refine z_aload_n (pc := 38) (k0 := 0) E dX12_image_38 rfl rfl ?_
  refine gM_3 (pc := 39) (i := 0) E rfl wd_3_22 dX12_image_39 ?_
  obtain ⟨SM_6, e_SM_6, hf⟩ := kL_e hf
  refine pM_55 (pc := 42) (i := 0) (S1 := SM_6) E rfl e_SM_6 wd_6_2 dX12_image_42 ?_
  show zJ p l e rm_X12_image s m args below meth c (zQ G ct (some (.int r0)) [wM aM ct OM] A below args s 0 0) A G 2 0 0 [wM aM ct SM_6] [(0, .ref (aM 200))] 45 []
  refine z_aload_n (pc := 45) (k0 := 0) E dX12_image_45 rfl rfl ?_
  refine z_aload_n (pc := 46) (k0 := 0) E dX12_image_46 rfl rfl ?_
  refine gM_4 (pc := 47) (i := 0) E rfl wd_3_23 dX12_image_47 ?_
  obtain ⟨SM_7, e_SM_7, hf⟩ := kL_e hf
  refine pM_56 (pc := 50) (i := 0) (S1 := SM_7) E rfl e_SM_7 wd_6_3 dX12_image_50 ?_
  show zJ p l e rm_X12_image s m args below meth c (zQ G ct (some (.int r0)) [wM aM ct OM] A below args s 0 0) A G 2 0 0 [wM aM ct SM_7] [(0, .ref (aM 200))] 53 []
  refine z_aload_n (pc := 53) (k0 := 0) E dX12_image_53 rfl rfl ?_
  refine z_aload_n (pc := 54) (k0 := 0) E dX12_image_54 rfl rfl ?_
  refine gM_5 (pc := 55) (i := 0) E rfl wd_4_0 dX12_image_55 ?_
  obtain ⟨SM_8, e_SM_8, hf⟩ := kL_e hf
  refine pM_57 (pc := 58) (i := 0) (S1 := SM_8) E rfl e_SM_8 wd_6_4 dX12_image_58 ?_
  show zJ p l e rm_X12_image s m args below meth c (zQ G ct (some (.int r0)) [wM aM ct OM] A below args s 0 0) A G 2 0 0 [wM aM ct SM_8] [(0, .ref (aM 200))] 61 []
  refine z_aload_n (pc := 61) (k0 := 0) E dX12_image_61 rfl rfl ?_
  refine z_aload_n (pc := 62) (k0 := 0) E dX12_image_62 rfl rfl ?_
  refine gM_6 (pc := 63) (i := 0) E rfl wd_4_1 dX12_image_63 ?_
  obtain ⟨SM_9, e_SM_9, hf⟩ := kL_e hf
  refine pM_58 (pc := 66) (i := 0) (S1 := SM_9) E rfl e_SM_9 wd_6_5 dX12_image_66 ?_
  show zJ p l e rm_X12_image s m args below meth c (zQ G ct (some (.int r0)) [wM aM ct OM] A below args s 0 0) A G 2 0 0 [wM aM ct SM_9] [(0, .ref (aM 200))] 69 []
  refine z_aload_n (pc := 69) (k0 := 0) E dX12_image_69 rfl rfl ?_
  refine z_aload_n (pc := 70) (k0 := 0) E dX12_image_70 rfl rfl ?_
  refine gM_7 (pc := 71) (i := 0) E rfl wd_4_2 dX12_image_71 ?_
  obtain ⟨SM_10, e_SM_10, hf⟩ := kL_e hf
  refine pM_59 (pc := 74) (i := 0) (S1 := SM_10) E rfl e_SM_10 wd_6_6 dX12_image_74 ?_
  show zJ p l e rm_X12_image s m args below meth c (zQ G ct (some (.int r0)) [wM aM ct OM] A below args s 0 0) A G 2 0 0 [wM aM ct SM_10] [(0, .ref (aM 200))] 77 []
  refine z_aload_n (pc := 77) (k0 := 0) E dX12_image_77 rfl rfl ?_
  refine z_aload_n (pc := 78) (k0 := 0) E dX12_image_78 rfl rfl ?_
  refine gM_46 (pc := 79) (i := 0) E rfl wd_5_17 dX12_image_79 ?_
  obtain ⟨SM_11, e_SM_11, hf⟩ := kL_e hf
  refine pM_60 (pc := 82) (i := 0) (S1 := SM_11) E rfl e_SM_11 wd_6_7 dX12_image_82 ?_
  show zJ p l e rm_X12_image s m args below meth c (zQ G ct (some (.int r0)) [wM aM ct OM] A below args s 0 0) A G 2 0 0 [wM aM ct SM_11] [(0, .ref (aM 200))] 85 []
  refine z_aload_n (pc := 85) (k0 := 0) E dX12_image_85 rfl rfl ?_
  refine z_aload_n (pc := 86) (k0 := 0) E dX12_image_86 rfl rfl ?_
  refine gM_48 (pc := 87) (i := 0) E rfl wd_5_19 dX12_image_87 ?_
  obtain ⟨SM_12, e_SM_12, hf⟩ := kL_e hf
  refine pM_61 (pc := 90) (i := 0) (S1 := SM_12) E rfl e_SM_12 wd_6_8 dX12_image_90 ?_
  show zJ p l e rm_X12_image s m args below meth c (zQ G ct (some (.int r0)) [wM aM ct OM] A below args s 0 0) A G 2 0 0 [wM aM ct SM_12] [(0, .ref (aM 200))] 93 []
  refine z_iconst (pc := 93) (v := 0) E dX12_image_93 (by decide) ?_
  refine z_istore_n (pc := 94) (lv' := [(1, .int 0), (0, .ref (aM 200))]) E dX12_image_94 rfl (by decide) rfl ?_
  refine z_sub [1, 0] (lv' := [(0, .ref (aM 200)), (1, .int 0)]) rfl ?_
  exact L95 N SM_12 0 hf
