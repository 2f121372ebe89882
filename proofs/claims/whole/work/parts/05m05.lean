noncomputable def f_X12_limit_l30 (N : Nat) : Nat → zMS → Int32 → Int32 → Int32 → Int32 → Int32 → Option (Int32 × zMS) := fun n => Nat.rec (motive := fun _ => zMS → Int32 → Int32 → Int32 → Int32 → Int32 → Option (Int32 × zMS)) (fun _ _ _ _ _ _ => none) (fun _ ih SM x1 x2 x3 x4 x5 => kB (100 ≤ x5) (kL (mSI SM 32 (-1)) (fun SM_8 => kB (x2 = 0) (some (x3, SM_8)) (some (x4, SM_8)))) (kL (mSI SM 32 x5) (fun SM_10 => kD (f_X12_sleepsBy N SM_10 x1) (fun r11 SM_12 => kB (r11 < 0) (kL (x5 + 1) (fun v15 => ih SM_12 x1 x2 x3 x4 v15)) (kB (x4 < 0) (kL (x5 + 1) (fun v17 => ih SM_12 x1 x2 x5 r11 v17)) (kB (r11 < x4) (kL (x5 + 1) (fun v19 => ih SM_12 x1 x2 x5 r11 v19)) (kL (x5 + 1) (fun v20 => ih SM_12 x1 x2 x3 x4 v20)))))))) n
theorem f_X12_limit_l30_z (N : Nat) (SM : zMS) (x1 : Int32) (x2 : Int32) (x3 : Int32) (x4 : Int32) (x5 : Int32) : f_X12_limit_l30 N 0 SM x1 x2 x3 x4 x5 = none := rfl
theorem f_X12_limit_l30_s (N : Nat) (n : Nat) (SM : zMS) (x1 : Int32) (x2 : Int32) (x3 : Int32) (x4 : Int32) (x5 : Int32) : f_X12_limit_l30 N (n + 1) SM x1 x2 x3 x4 x5 = kB (100 ≤ x5) (kL (mSI SM 32 (-1)) (fun SM_8 => kB (x2 = 0) (some (x3, SM_8)) (some (x4, SM_8)))) (kL (mSI SM 32 x5) (fun SM_10 => kD (f_X12_sleepsBy N SM_10 x1) (fun r11 SM_12 => kB (r11 < 0) (kL (x5 + 1) (fun v15 => (f_X12_limit_l30 N n) SM_12 x1 x2 x3 x4 v15)) (kB (x4 < 0) (kL (x5 + 1) (fun v17 => (f_X12_limit_l30 N n) SM_12 x1 x2 x5 r11 v17)) (kB (r11 < x4) (kL (x5 + 1) (fun v19 => (f_X12_limit_l30 N n) SM_12 x1 x2 x5 r11 v19)) (kL (x5 + 1) (fun v20 => (f_X12_limit_l30 N n) SM_12 x1 x2 x3 x4 v20))))))) := rfl
noncomputable def f_X12_limit (N : Nat) (SM : zMS) (a1 : Int32) (a2 : Int32) : Option (Int32 × zMS) := kC (f_X12_isParent SM a1) (fun r1 => kB (r1 = 0) (some ((-1), SM)) (kC (f_X12_in SM a2 0 1) (fun r4 => kB (r4 = 0) (some ((-1), SM)) (f_X12_limit_l30 N N SM a1 a2 (-5) (-5) 1))))
theorem wv_X12_limit : zWV RX12 yX12_limit cX12_limit 7 (some .int) 2 := ⟨wd_36_3, wd_36_4, wd_1_5, wd_36_5, by decide +kernel⟩
def rm_X12_limit : Room := { frames := 9, cells := 0, slots := 0, locals := 199 }
set_option maxHeartbeats 4000000 in
set_option maxRecDepth 100000 in
theorem c_X12_limit {l : Launch} {G : va_G} {ct : Nat → ClassId} {aM : Nat → Nat} {N : Nat} {SM : zMS} {a1 : Int32} {a2 : Int32} {r0 : Int32} {OM : zMS} (hf : f_X12_limit N SM a1 a2 = some (r0, OM)) : zC l yX12_limit cX12_limit 7 (some .int) rm_X12_limit G ct [.ref (aM 200), .int a1, .int a2] [wM aM ct SM] [wM aM ct OM] (some (.int r0)) 0 0 := by
  refine z_enter (own := RX12) (lv := [(0, .ref (aM 200)), (1, .int a1), (2, .int a2)]) (by decide) rfl (Nat.le_of_ble_eq_true rfl) rfl ?_
  intro p e s m args below meth c A E hr hnm
  have L30 : ∀ (n30 : Nat) (SM : zMS) (x1 : Int32) (x2 : Int32) (x3 : Int32) (x4 : Int32) (x5 : Int32), f_X12_limit_l30 N n30 SM x1 x2 x3 x4 x5 = some (r0, OM) → zJ p l e rm_X12_limit s m args below meth c (zQ G ct (some (.int r0)) [wM aM ct OM] A below args s 0 0) A G 7 0 0 [wM aM ct SM] [(0, .ref (aM 200)), (1, .int x1), (2, .int x2), (3, .int x3), (4, .int x4), (5, .int x5)] 30 [] := by
    intro n30
    induction n30 with
    | zero =>
      intro SM x1 x2 x3 x4 x5 hf
      rw [f_X12_limit_l30_z] at hf
      cases hf
    | succ n30 ih30 =>
      intro SM x1 x2 x3 x4 x5 hf
      rw [f_X12_limit_l30_s] at hf
      refine z_iload (pc := 30) (k0 := 5) E dX12_limit_30 rfl ?_
      refine z_bipush (pc := 32) (v := 100) E dX12_limit_32 (by decide) ?_
      refine z_icmp_ge (pc := 34) (tgt := 83) E dX12_limit_34 (by decide) (fun c7 => ?_) (fun c7 => ?_)
      · have hf := kB_t hf c7
        refine z_aload_n (pc := 83) (k0 := 0) E dX12_limit_83 rfl rfl ?_
        refine z_iconst (pc := 84) (v := (-1)) E dX12_limit_84 (by decide) ?_
        obtain ⟨SM_8, e_SM_8, hf⟩ := kL_e hf
        refine pM_32 (pc := 85) (i := 0) (S1 := SM_8) E rfl e_SM_8 wd_5_3 dX12_limit_85 ?_
        show zJ p l e rm_X12_limit s m args below meth c (zQ G ct (some (.int r0)) [wM aM ct OM] A below args s 0 0) A G 7 0 0 [wM aM ct SM_8] [(0, .ref (aM 200)), (1, .int x1), (2, .int x2), (3, .int x3), (4, .int x4), (5, .int x5)] 88 []
        refine z_iload_n (pc := 88) (k0 := 2) E dX12_limit_88 rfl rfl ?_
        refine z_if_ne (pc := 89) (tgt := 96) E dX12_limit_89 (by decide) (fun c9 => ?_) (fun c9 => ?_)
        · have hf := kB_f hf c9
          refine z_iload (pc := 96) (k0 := 4) E dX12_limit_96 rfl ?_
          cases hf
          exact z_iret E hr dX12_limit_98
        · have hf := kB_t hf c9
          refine z_iload_n (pc := 92) (k0 := 3) E dX12_limit_92 rfl rfl ?_
          refine z_goto (pc := 93) (tgt := 98) E dX12_limit_93 (by decide) ?_
          cases hf
          exact z_iret E hr dX12_limit_98
      · have hf := kB_f hf c7
        refine z_aload_n (pc := 37) (k0 := 0) E dX12_limit_37 rfl rfl ?_
        refine z_iload (pc := 38) (k0 := 5) E dX12_limit_38 rfl ?_
        obtain ⟨SM_10, e_SM_10, hf⟩ := kL_e hf
        refine pM_32 (pc := 40) (i := 0) (S1 := SM_10) E rfl e_SM_10 wd_5_3 dX12_limit_40 ?_
        show zJ p l e rm_X12_limit s m args below meth c (zQ G ct (some (.int r0)) [wM aM ct OM] A below args s 0 0) A G 7 0 0 [wM aM ct SM_10] [(0, .ref (aM 200)), (1, .int x1), (2, .int x2), (3, .int x3), (4, .int x4), (5, .int x5)] 43 []
        refine z_aload_n (pc := 43) (k0 := 0) E dX12_limit_43 rfl rfl ?_
        refine z_iload_n (pc := 44) (k0 := 1) E dX12_limit_44 rfl rfl ?_
        obtain ⟨r11, SM_12, h13, hf⟩ := kD_e hf
        refine z_callV0 (pc := 45) (is := [0]) (n := 1) (As := [.int x1]) (st := []) (st' := [.int r11]) (C2 := [wM aM ct SM_12]) E (c_X12_sleepsBy (l := l) (G := G) (ct := ct) (aM := aM) h13) wv_X12_sleepsBy wd_35_10 ⟨Nat.le_of_ble_eq_true rfl, Nat.le_of_ble_eq_true rfl, Nat.le_of_ble_eq_true rfl, Nat.le_of_ble_eq_true rfl⟩ rfl rfl rfl (by decide) rfl rfl (zrM (j := 0) rfl) rfl (Nat.le_of_ble_eq_true rfl) dX12_limit_45 rfl rfl ?_
        refine z_istore (pc := 48) (lv' := [(6, .int r11), (0, .ref (aM 200)), (1, .int x1), (2, .int x2), (3, .int x3), (4, .int x4), (5, .int x5)]) E dX12_limit_48 (by decide) rfl ?_
        refine z_iload (pc := 50) (k0 := 0) E dX12_limit_50 rfl ?_
        refine z_if_lt (pc := 52) (tgt := 77) E dX12_limit_52 (by decide) (fun c14 => ?_) (fun c14 => ?_)
        · have hf := kB_t hf c14
          obtain ⟨v15, e_v15, hf⟩ := kL_e hf
          refine z_iinc (pc := 77) (k0 := 6) (v := v15) (lv' := [(5, .int v15), (6, .int r11), (0, .ref (aM 200)), (1, .int x1), (2, .int x2), (3, .int x3), (4, .int x4)]) E dX12_limit_77 rfl e_v15 (by decide) rfl ?_
          refine z_goto (pc := 80) (tgt := 30) E dX12_limit_80 (by decide) ?_
          refine z_sub [2, 3, 4, 5, 6, 0] (lv' := [(0, .ref (aM 200)), (1, .int x1), (2, .int x2), (3, .int x3), (4, .int x4), (5, .int v15)]) rfl ?_
          exact ih30 SM_12 x1 x2 x3 x4 v15 hf
        · have hf := kB_f hf c14
          refine z_iload (pc := 55) (k0 := 5) E dX12_limit_55 rfl ?_
          refine z_if_lt (pc := 57) (tgt := 70) E dX12_limit_57 (by decide) (fun c16 => ?_) (fun c16 => ?_)
          · have hf := kB_t hf c16
            refine z_iload (pc := 70) (k0 := 6) E dX12_limit_70 rfl ?_
            refine z_istore_n (pc := 72) (lv' := [(3, .int x5), (6, .int r11), (0, .ref (aM 200)), (1, .int x1), (2, .int x2), (4, .int x4), (5, .int x5)]) E dX12_limit_72 rfl (by decide) rfl ?_
            refine z_iload (pc := 73) (k0 := 1) E dX12_limit_73 rfl ?_
            refine z_istore (pc := 75) (lv' := [(4, .int r11), (3, .int x5), (6, .int r11), (0, .ref (aM 200)), (1, .int x1), (2, .int x2), (5, .int x5)]) E dX12_limit_75 (by decide) rfl ?_
            obtain ⟨v17, e_v17, hf⟩ := kL_e hf
            refine z_iinc (pc := 77) (k0 := 6) (v := v17) (lv' := [(5, .int v17), (4, .int r11), (3, .int x5), (6, .int r11), (0, .ref (aM 200)), (1, .int x1), (2, .int x2)]) E dX12_limit_77 rfl e_v17 (by decide) rfl ?_
            refine z_goto (pc := 80) (tgt := 30) E dX12_limit_80 (by decide) ?_
            refine z_sub [4, 5, 6, 2, 1, 0] (lv' := [(0, .ref (aM 200)), (1, .int x1), (2, .int x2), (3, .int x5), (4, .int r11), (5, .int v17)]) rfl ?_
            exact ih30 SM_12 x1 x2 x5 r11 v17 hf
          · have hf := kB_f hf c16
            refine z_iload (pc := 60) (k0 := 0) E dX12_limit_60 rfl ?_
            refine z_iload (pc := 62) (k0 := 5) E dX12_limit_62 rfl ?_
            refine z_icmp_lt (pc := 64) (tgt := 70) E dX12_limit_64 (by decide) (fun c18 => ?_) (fun c18 => ?_)
            · have hf := kB_t hf c18
              refine z_iload (pc := 70) (k0 := 6) E dX12_limit_70 rfl ?_
              refine z_istore_n (pc := 72) (lv' := [(3, .int x5), (6, .int r11), (0, .ref (aM 200)), (1, .int x1), (2, .int x2), (4, .int x4), (5, .int x5)]) E dX12_limit_72 rfl (by decide) rfl ?_
              refine z_iload (pc := 73) (k0 := 1) E dX12_limit_73 rfl ?_
              refine z_istore (pc := 75) (lv' := [(4, .int r11), (3, .int x5), (6, .int r11), (0, .ref (aM 200)), (1, .int x1), (2, .int x2), (5, .int x5)]) E dX12_limit_75 (by decide) rfl ?_
              obtain ⟨v19, e_v19, hf⟩ := kL_e hf
              refine z_iinc (pc := 77) (k0 := 6) (v := v19) (lv' := [(5, .int v19), (4, .int r11), (3, .int x5), (6, .int r11), (0, .ref (aM 200)), (1, .int x1), (2, .int x2)]) E dX12_limit_77 rfl e_v19 (by decide) rfl ?_
              refine z_goto (pc := 80) (tgt := 30) E dX12_limit_80 (by decide) ?_
              refine z_sub [4, 5, 6, 2, 1, 0] (lv' := [(0, .ref (aM 200)), (1, .int x1), (2, .int x2), (3, .int x5), (4, .int r11), (5, .int v19)]) rfl ?_
              exact ih30 SM_12 x1 x2 x5 r11 v19 hf
            · have hf := kB_f hf c18
              refine z_goto (pc := 67) (tgt := 77) E dX12_limit_67 (by decide) ?_
              obtain ⟨v20, e_v20, hf⟩ := kL_e hf
              refine z_iinc (pc := 77) (k0 := 6) (v := v20) (lv' := [(5, .int v20), (6, .int r11), (0, .ref (aM 200)), (1, .int x1), (2, .int x2), (3, .int x3), (4, .int x4)]) E dX12_limit_77 rfl e_v20 (by decide) rfl ?_
              refine z_goto (pc := 80) (tgt := 30) E dX12_limit_80 (by decide) ?_
              refine z_sub [2, 3, 4, 5, 6, 0] (lv' := [(0, .ref (aM 200)), (1, .int x1), (2, .int x2), (3, .int x3), (4, .int x4), (5, .int v20)]) rfl ?_
              exact ih30 SM_12 x1 x2 x3 x4 v20 hf
  unfold f_X12_limit at hf
  refine z_aload_n (pc := 0) (k0 := 0) E dX12_limit_0 rfl rfl ?_
  refine z_iload_n (pc := 1) (k0 := 1) E dX12_limit_1 rfl rfl ?_
  obtain ⟨r1, h2, hf⟩ := kC_e hf
  refine z_callV0 (pc := 2) (is := [0]) (n := 1) (As := [.int a1]) (st := []) (st' := [.int r1]) (C2 := [wM aM ct SM]) E (c_X12_isParent (l := l) (G := G) (ct := ct) (aM := aM) h2) wv_X12_isParent wd_15_13 ⟨Nat.le_of_ble_eq_true rfl, Nat.le_of_ble_eq_true rfl, Nat.le_of_ble_eq_true rfl, Nat.le_of_ble_eq_true rfl⟩ rfl rfl rfl (by decide) rfl rfl (zrM (j := 0) rfl) rfl (Nat.le_of_ble_eq_true rfl) dX12_limit_2 rfl rfl ?_
  refine z_if_eq (pc := 5) (tgt := 18) E dX12_limit_5 (by decide) (fun c3 => ?_) (fun c3 => ?_)
  · have hf := kB_t hf c3
    refine z_iconst (pc := 18) (v := (-1)) E dX12_limit_18 (by decide) ?_
    cases hf
    exact z_iret E hr dX12_limit_19
  · have hf := kB_f hf c3
    refine z_aload_n (pc := 8) (k0 := 0) E dX12_limit_8 rfl rfl ?_
    refine z_iload_n (pc := 9) (k0 := 2) E dX12_limit_9 rfl rfl ?_
    refine z_iconst (pc := 10) (v := 0) E dX12_limit_10 (by decide) ?_
    refine z_iconst (pc := 11) (v := 1) E dX12_limit_11 (by decide) ?_
    obtain ⟨r4, h5, hf⟩ := kC_e hf
    refine z_callV0 (pc := 12) (is := [0]) (n := 3) (As := [.int a2, .int 0, .int 1]) (st := []) (st' := [.int r4]) (C2 := [wM aM ct SM]) E (c_X12_in (l := l) (G := G) (ct := ct) (aM := aM) h5) wv_X12_in wd_7_11 ⟨Nat.le_of_ble_eq_true rfl, Nat.le_of_ble_eq_true rfl, Nat.le_of_ble_eq_true rfl, Nat.le_of_ble_eq_true rfl⟩ rfl rfl rfl (by decide) rfl rfl (zrM (j := 0) rfl) rfl (Nat.le_of_ble_eq_true rfl) dX12_limit_12 rfl rfl ?_
    refine z_if_ne (pc := 15) (tgt := 20) E dX12_limit_15 (by decide) (fun c6 => ?_) (fun c6 => ?_)
    · have hf := kB_f hf c6
      refine z_bipush (pc := 20) (v := (-5)) E dX12_limit_20 (by decide) ?_
      refine z_istore_n (pc := 22) (lv' := [(3, .int (-5)), (0, .ref (aM 200)), (1, .int a1), (2, .int a2)]) E dX12_limit_22 rfl (by decide) rfl ?_
      refine z_bipush (pc := 23) (v := (-5)) E dX12_limit_23 (by decide) ?_
      refine z_istore (pc := 25) (lv' := [(4, .int (-5)), (3, .int (-5)), (0, .ref (aM 200)), (1, .int a1), (2, .int a2)]) E dX12_limit_25 (by decide) rfl ?_
      refine z_iconst (pc := 27) (v := 1) E dX12_limit_27 (by decide) ?_
      refine z_istore (pc := 28) (lv' := [(5, .int 1), (4, .int (-5)), (3, .int (-5)), (0, .ref (aM 200)), (1, .int a1), (2, .int a2)]) E dX12_limit_28 (by decide) rfl ?_
      refine z_sub [3, 4, 5, 2, 1, 0] (lv' := [(0, .ref (aM 200)), (1, .int a1), (2, .int a2), (3, .int (-5)), (4, .int (-5)), (5, .int 1)]) rfl ?_
      exact L30 N SM a1 a2 (-5) (-5) 1 hf
    · have hf := kB_t hf c6
      refine z_iconst (pc := 18) (v := (-1)) E dX12_limit_18 (by decide) ?_
      cases hf
      exact z_iret E hr dX12_limit_19
noncomputable def f_X12_without_l22 (N : Nat) : Nat → zMS → Int32 → Int32 → Int32 → Int32 → Option (Int32 × zMS) := fun n => Nat.rec (motive := fun _ => zMS → Int32 → Int32 → Int32 → Int32 → Option (Int32 × zMS)) (fun _ _ _ _ _ => none) (fun _ ih SM x1 x2 x3 x4 => kB ((SM.1 0) ≤ x4) (kL (mSI SM 34 (-1)) (fun SM_8 => some (x3, SM_8))) (kL (mSI SM 34 x4) (fun SM_9 => kD (f_X12_sleepsBy N SM_9 x1) (fun r10 SM_11 => kB (r10 < 0) (kL (x4 + 1) (fun v14 => ih SM_11 x1 x2 x3 v14)) (kB (x2 < 0) (kL (x4 + 1) (fun v16 => ih SM_11 x1 r10 x4 v16)) (kB (r10 < x2) (kL (x4 + 1) (fun v18 => ih SM_11 x1 r10 x4 v18)) (kL (x4 + 1) (fun v19 => ih SM_11 x1 x2 x3 v19)))))))) n
theorem f_X12_without_l22_z (N : Nat) (SM : zMS) (x1 : Int32) (x2 : Int32) (x3 : Int32) (x4 : Int32) : f_X12_without_l22 N 0 SM x1 x2 x3 x4 = none := rfl
theorem f_X12_without_l22_s (N : Nat) (n : Nat) (SM : zMS) (x1 : Int32) (x2 : Int32) (x3 : Int32) (x4 : Int32) : f_X12_without_l22 N (n + 1) SM x1 x2 x3 x4 = kB ((SM.1 0) ≤ x4) (kL (mSI SM 34 (-1)) (fun SM_8 => some (x3, SM_8))) (kL (mSI SM 34 x4) (fun SM_9 => kD (f_X12_sleepsBy N SM_9 x1) (fun r10 SM_11 => kB (r10 < 0) (kL (x4 + 1) (fun v14 => (f_X12_without_l22 N n) SM_11 x1 x2 x3 v14)) (kB (x2 < 0) (kL (x4 + 1) (fun v16 => (f_X12_without_l22 N n) SM_11 x1 r10 x4 v16)) (kB (r10 < x2) (kL (x4 + 1) (fun v18 => (f_X12_without_l22 N n) SM_11 x1 r10 x4 v18)) (kL (x4 + 1) (fun v19 => (f_X12_without_l22 N n) SM_11 x1 x2 x3 v19))))))) := rfl
noncomputable def f_X12_without (N : Nat) (SM : zMS) (a1 : Int32) : Option (Int32 × zMS) := kC (f_X12_isParent SM a1) (fun r1 => kB (r1 = 0) (some ((-1), SM)) (kD (f_X12_sleepsBy N SM a1) (fun r4 SM_5 => f_X12_without_l22 N N SM_5 a1 r4 (-5) 0)))
theorem wv_X12_without : zWV RX12 yX12_without cX12_without 6 (some .int) 1 := ⟨wd_36_15, wd_36_16, wd_1_5, wd_36_17, by decide +kernel⟩
def rm_X12_without : Room := { frames := 9, cells := 0, slots := 0, locals := 199 }
set_option maxHeartbeats 4000000 in
set_option maxRecDepth 100000 in
theorem c_X12_without {l : Launch} {G : va_G} {ct : Nat → ClassId} {aM : Nat → Nat} {N : Nat} {SM : zMS} {a1 : Int32} {r0 : Int32} {OM : zMS} (hf : f_X12_without N SM a1 = some (r0, OM)) : zC l yX12_without cX12_without 6 (some .int) rm_X12_without G ct [.ref (aM 200), .int a1] [wM aM ct SM] [wM aM ct OM] (some (.int r0)) 0 0 := by
  refine z_enter (own := RX12) (lv := [(0, .ref (aM 200)), (1, .int a1)]) (by decide) rfl (Nat.le_of_ble_eq_true rfl) rfl ?_
  intro p e s m args below meth c A E hr hnm
  have L22 : ∀ (n22 : Nat) (SM : zMS) (x1 : Int32) (x2 : Int32) (x3 : Int32) (x4 : Int32), f_X12_without_l22 N n22 SM x1 x2 x3 x4 = some (r0, OM) → zJ p l e rm_X12_without s m args below meth c (zQ G ct (some (.int r0)) [wM aM ct OM] A below args s 0 0) A G 6 0 0 [wM aM ct SM] [(0, .ref (aM 200)), (1, .int x1), (2, .int x2), (3, .int x3), (4, .int x4)] 22 [] := by
    intro n22
    induction n22 with
    | zero =>
      intro SM x1 x2 x3 x4 hf
      rw [f_X12_without_l22_z] at hf
      cases hf
    | succ n22 ih22 =>
      intro SM x1 x2 x3 x4 hf
      rw [f_X12_without_l22_s] at hf
      refine z_iload (pc := 22) (k0 := 4) E dX12_without_22 rfl ?_
      refine z_aload_n (pc := 24) (k0 := 0) E dX12_without_24 rfl rfl ?_
      refine gM_0 (pc := 25) (i := 0) E rfl wd_3_19 dX12_without_25 ?_
      refine z_icmp_ge (pc := 28) (tgt := 74) E dX12_without_28 (by decide) (fun c7 => ?_) (fun c7 => ?_)
      · have hf := kB_t hf c7
        refine z_aload_n (pc := 74) (k0 := 0) E dX12_without_74 rfl rfl ?_
        refine z_iconst (pc := 75) (v := (-1)) E dX12_without_75 (by decide) ?_
        obtain ⟨SM_8, e_SM_8, hf⟩ := kL_e hf
        refine pM_34 (pc := 76) (i := 0) (S1 := SM_8) E rfl e_SM_8 wd_5_5 dX12_without_76 ?_
        show zJ p l e rm_X12_without s m args below meth c (zQ G ct (some (.int r0)) [wM aM ct OM] A below args s 0 0) A G 6 0 0 [wM aM ct SM_8] [(0, .ref (aM 200)), (1, .int x1), (2, .int x2), (3, .int x3), (4, .int x4)] 79 []
        refine z_iload_n (pc := 79) (k0 := 3) E dX12_without_79 rfl rfl ?_
        cases hf
        exact z_iret E hr dX12_without_80
      · have hf := kB_f hf c7
        refine z_aload_n (pc := 31) (k0 := 0) E dX12_without_31 rfl rfl ?_
        refine z_iload (pc := 32) (k0 := 4) E dX12_without_32 rfl ?_
        obtain ⟨SM_9, e_SM_9, hf⟩ := kL_e hf
        refine pM_34 (pc := 34) (i := 0) (S1 := SM_9) E rfl e_SM_9 wd_5_5 dX12_without_34 ?_
        show zJ p l e rm_X12_without s m args below meth c (zQ G ct (some (.int r0)) [wM aM ct OM] A below args s 0 0) A G 6 0 0 [wM aM ct SM_9] [(0, .ref (aM 200)), (1, .int x1), (2, .int x2), (3, .int x3), (4, .int x4)] 37 []
        refine z_aload_n (pc := 37) (k0 := 0) E dX12_without_37 rfl rfl ?_
        refine z_iload_n (pc := 38) (k0 := 1) E dX12_without_38 rfl rfl ?_
        obtain ⟨r10, SM_11, h12, hf⟩ := kD_e hf
        refine z_callV0 (pc := 39) (is := [0]) (n := 1) (As := [.int x1]) (st := []) (st' := [.int r10]) (C2 := [wM aM ct SM_11]) E (c_X12_sleepsBy (l := l) (G := G) (ct := ct) (aM := aM) h12) wv_X12_sleepsBy wd_35_10 ⟨Nat.le_of_ble_eq_true rfl, Nat.le_of_ble_eq_true rfl, Nat.le_of_ble_eq_true rfl, Nat.le_of_ble_eq_true rfl⟩ rfl rfl rfl (by decide) rfl rfl (zrM (j := 0) rfl) rfl (Nat.le_of_ble_eq_true rfl) dX12_without_39 rfl rfl ?_
        refine z_istore (pc := 42) (lv' := [(5, .int r10), (0, .ref (aM 200)), (1, .int x1), (2, .int x2), (3, .int x3), (4, .int x4)]) E dX12_without_42 (by decide) rfl ?_
        refine z_iload (pc := 44) (k0 := 0) E dX12_without_44 rfl ?_
        refine z_if_lt (pc := 46) (tgt := 68) E dX12_without_46 (by decide) (fun c13 => ?_) (fun c13 => ?_)
        · have hf := kB_t hf c13
          obtain ⟨v14, e_v14, hf⟩ := kL_e hf
          refine z_iinc (pc := 68) (k0 := 5) (v := v14) (lv' := [(4, .int v14), (5, .int r10), (0, .ref (aM 200)), (1, .int x1), (2, .int x2), (3, .int x3)]) E dX12_without_68 rfl e_v14 (by decide) rfl ?_
          refine z_goto (pc := 71) (tgt := 22) E dX12_without_71 (by decide) ?_
          refine z_sub [2, 3, 4, 5, 0] (lv' := [(0, .ref (aM 200)), (1, .int x1), (2, .int x2), (3, .int x3), (4, .int v14)]) rfl ?_
          exact ih22 SM_11 x1 x2 x3 v14 hf
        · have hf := kB_f hf c13
          refine z_iload_n (pc := 49) (k0 := 3) E dX12_without_49 rfl rfl ?_
          refine z_if_lt (pc := 50) (tgt := 62) E dX12_without_50 (by decide) (fun c15 => ?_) (fun c15 => ?_)
          · have hf := kB_t hf c15
            refine z_iload (pc := 62) (k0 := 5) E dX12_without_62 rfl ?_
            refine z_istore_n (pc := 64) (lv' := [(3, .int x4), (5, .int r10), (0, .ref (aM 200)), (1, .int x1), (2, .int x2), (4, .int x4)]) E dX12_without_64 rfl (by decide) rfl ?_
            refine z_iload (pc := 65) (k0 := 1) E dX12_without_65 rfl ?_
            refine z_istore_n (pc := 67) (lv' := [(2, .int r10), (3, .int x4), (5, .int r10), (0, .ref (aM 200)), (1, .int x1), (4, .int x4)]) E dX12_without_67 rfl (by decide) rfl ?_
            obtain ⟨v16, e_v16, hf⟩ := kL_e hf
            refine z_iinc (pc := 68) (k0 := 5) (v := v16) (lv' := [(4, .int v16), (2, .int r10), (3, .int x4), (5, .int r10), (0, .ref (aM 200)), (1, .int x1)]) E dX12_without_68 rfl e_v16 (by decide) rfl ?_
            refine z_goto (pc := 71) (tgt := 22) E dX12_without_71 (by decide) ?_
            refine z_sub [4, 5, 1, 2, 0] (lv' := [(0, .ref (aM 200)), (1, .int x1), (2, .int r10), (3, .int x4), (4, .int v16)]) rfl ?_
            exact ih22 SM_11 x1 r10 x4 v16 hf
          · have hf := kB_f hf c15
            refine z_iload (pc := 53) (k0 := 0) E dX12_without_53 rfl ?_
            refine z_iload_n (pc := 55) (k0 := 3) E dX12_without_55 rfl rfl ?_
            refine z_icmp_lt (pc := 56) (tgt := 62) E dX12_without_56 (by decide) (fun c17 => ?_) (fun c17 => ?_)
            · have hf := kB_t hf c17
              refine z_iload (pc := 62) (k0 := 5) E dX12_without_62 rfl ?_
              refine z_istore_n (pc := 64) (lv' := [(3, .int x4), (5, .int r10), (0, .ref (aM 200)), (1, .int x1), (2, .int x2), (4, .int x4)]) E dX12_without_64 rfl (by decide) rfl ?_
              refine z_iload (pc := 65) (k0 := 1) E dX12_without_65 rfl ?_
              refine z_istore_n (pc := 67) (lv' := [(2, .int r10), (3, .int x4), (5, .int r10), (0, .ref (aM 200)), (1, .int x1), (4, .int x4)]) E dX12_without_67 rfl (by decide) rfl ?_
              obtain ⟨v18, e_v18, hf⟩ := kL_e hf
              refine z_iinc (pc := 68) (k0 := 5) (v := v18) (lv' := [(4, .int v18), (2, .int r10), (3, .int x4), (5, .int r10), (0, .ref (aM 200)), (1, .int x1)]) E dX12_without_68 rfl e_v18 (by decide) rfl ?_
              refine z_goto (pc := 71) (tgt := 22) E dX12_without_71 (by decide) ?_
              refine z_sub [4, 5, 1, 2, 0] (lv' := [(0, .ref (aM 200)), (1, .int x1), (2, .int r10), (3, .int x4), (4, .int v18)]) rfl ?_
              exact ih22 SM_11 x1 r10 x4 v18 hf
            · have hf := kB_f hf c17
              refine z_goto (pc := 59) (tgt := 68) E dX12_without_59 (by decide) ?_
              obtain ⟨v19, e_v19, hf⟩ := kL_e hf
              refine z_iinc (pc := 68) (k0 := 5) (v := v19) (lv' := [(4, .int v19), (5, .int r10), (0, .ref (aM 200)), (1, .int x1), (2, .int x2), (3, .int x3)]) E dX12_without_68 rfl e_v19 (by decide) rfl ?_
              refine z_goto (pc := 71) (tgt := 22) E dX12_without_71 (by decide) ?_
              refine z_sub [2, 3, 4, 5, 0] (lv' := [(0, .ref (aM 200)), (1, .int x1), (2, .int x2), (3, .int x3), (4, .int v19)]) rfl ?_
              exact ih22 SM_11 x1 x2 x3 v19 hf
  unfold f_X12_without at hf
  refine z_aload_n (pc := 0) (k0 := 0) E dX12_without_0 rfl rfl ?_
  refine z_iload_n (pc := 1) (k0 := 1) E dX12_without_1 rfl rfl ?_
  obtain ⟨r1, h2, hf⟩ := kC_e hf
  refine z_callV0 (pc := 2) (is := [0]) (n := 1) (As := [.int a1]) (st := []) (st' := [.int r1]) (C2 := [wM aM ct SM]) E (c_X12_isParent (l := l) (G := G) (ct := ct) (aM := aM) h2) wv_X12_isParent wd_15_13 ⟨Nat.le_of_ble_eq_true rfl, Nat.le_of_ble_eq_true rfl, Nat.le_of_ble_eq_true rfl, Nat.le_of_ble_eq_true rfl⟩ rfl rfl rfl (by decide) rfl rfl (zrM (j := 0) rfl) rfl (Nat.le_of_ble_eq_true rfl) dX12_without_2 rfl rfl ?_
  refine z_if_ne (pc := 5) (tgt := 10) E dX12_without_5 (by decide) (fun c3 => ?_) (fun c3 => ?_)
  · have hf := kB_f hf c3
    refine z_aload_n (pc := 10) (k0 := 0) E dX12_without_10 rfl rfl ?_
    refine z_iload_n (pc := 11) (k0 := 1) E dX12_without_11 rfl rfl ?_
    obtain ⟨r4, SM_5, h6, hf⟩ := kD_e hf
    refine z_callV0 (pc := 12) (is := [0]) (n := 1) (As := [.int a1]) (st := []) (st' := [.int r4]) (C2 := [wM aM ct SM_5]) E (c_X12_sleepsBy (l := l) (G := G) (ct := ct) (aM := aM) h6) wv_X12_sleepsBy wd_35_10 ⟨Nat.le_of_ble_eq_true rfl, Nat.le_of_ble_eq_true rfl, Nat.le_of_ble_eq_true rfl, Nat.le_of_ble_eq_true rfl⟩ rfl rfl rfl (by decide) rfl rfl (zrM (j := 0) rfl) rfl (Nat.le_of_ble_eq_true rfl) dX12_without_12 rfl rfl ?_
    refine z_istore_n (pc := 15) (lv' := [(2, .int r4), (0, .ref (aM 200)), (1, .int a1)]) E dX12_without_15 rfl (by decide) rfl ?_
    refine z_bipush (pc := 16) (v := (-5)) E dX12_without_16 (by decide) ?_
    refine z_istore_n (pc := 18) (lv' := [(3, .int (-5)), (2, .int r4), (0, .ref (aM 200)), (1, .int a1)]) E dX12_without_18 rfl (by decide) rfl ?_
    refine z_iconst (pc := 19) (v := 0) E dX12_without_19 (by decide) ?_
    refine z_istore (pc := 20) (lv' := [(4, .int 0), (3, .int (-5)), (2, .int r4), (0, .ref (aM 200)), (1, .int a1)]) E dX12_without_20 (by decide) rfl ?_
    refine z_sub [3, 4, 2, 1, 0] (lv' := [(0, .ref (aM 200)), (1, .int a1), (2, .int r4), (3, .int (-5)), (4, .int 0)]) rfl ?_
    exact L22 N SM_5 a1 r4 (-5) 0 hf
  · have hf := kB_t hf c3
    refine z_iconst (pc := 8) (v := (-1)) E dX12_without_8 (by decide) ?_
    cases hf
    exact z_iret E hr dX12_without_9
noncomputable def f_X12_layOrder_b93 (N : Nat) (k44 : zMS → Int32 → Int32 → Int32 → Int32 → Option (Int32 × zMS)) (k78 : zMS → Int32 → Int32 → Int32 → Int32 → Int32 → Int32 → Option (Int32 × zMS)) (SM : zMS) (x2 : Int32) (x3 : Int32) (x4 : Int32) (x5 : Int32) (x6 : Int32) (x7 : Int32) : Option (Int32 × zMS) := kC (f_X12_has SM x3 x7) (fun r25 => kB (r25 = 0) (kL (x6 - 0) (fun v28 => kL (x7 + 1) (fun v29 => k78 SM x2 x3 x4 x5 v28 v29))) (kL (x6 - 1) (fun v30 => kL (x7 + 1) (fun v31 => k78 SM x2 x3 x4 x5 v30 v31))))
noncomputable def f_X12_layOrder_l78 (N : Nat) (k44 : zMS → Int32 → Int32 → Int32 → Int32 → Option (Int32 × zMS)) : Nat → zMS → Int32 → Int32 → Int32 → Int32 → Int32 → Int32 → Option (Int32 × zMS) := fun n => Nat.rec (motive := fun _ => zMS → Int32 → Int32 → Int32 → Int32 → Int32 → Int32 → Option (Int32 × zMS)) (fun _ _ _ _ _ _ _ => none) (fun _ ih SM x2 x3 x4 x5 x6 x7 => kC (f_X12_has SM x3 x7) (fun r15 => kB (r15 = 0) (f_X12_layOrder_b93 N k44 ih SM x2 x3 x4 x5 x6 x7) (kB (x6 ≤ 0) (kO (¬ (x5 < 0 ∨ 5 ≤ Int32.toNatClampNeg x5)) (kL (mSA SM 44 (upd (SM.2.1 44) (Int32.toNatClampNeg x5) x7)) (fun SM_20 => kL ((1 : Int32) <<< (x7 &&& 31)) (fun v21 => kL (v21 ^^^ (-1)) (fun v22 => kL (x3 &&& v22) (fun v23 => kL (x5 + 1) (fun v24 => k44 SM_20 x2 v23 x4 v24))))))) (f_X12_layOrder_b93 N k44 ih SM x2 x3 x4 x5 x6 x7)))) n
theorem f_X12_layOrder_l78_z (N : Nat) (k44 : zMS → Int32 → Int32 → Int32 → Int32 → Option (Int32 × zMS)) (SM : zMS) (x2 : Int32) (x3 : Int32) (x4 : Int32) (x5 : Int32) (x6 : Int32) (x7 : Int32) : f_X12_layOrder_l78 N k44 0 SM x2 x3 x4 x5 x6 x7 = none := rfl
theorem f_X12_layOrder_l78_s (N : Nat) (k44 : zMS → Int32 → Int32 → Int32 → Int32 → Option (Int32 × zMS)) (n : Nat) (SM : zMS) (x2 : Int32) (x3 : Int32) (x4 : Int32) (x5 : Int32) (x6 : Int32) (x7 : Int32) : f_X12_layOrder_l78 N k44 (n + 1) SM x2 x3 x4 x5 x6 x7 = kC (f_X12_has SM x3 x7) (fun r15 => kB (r15 = 0) (f_X12_layOrder_b93 N k44 (f_X12_layOrder_l78 N k44 n) SM x2 x3 x4 x5 x6 x7) (kB (x6 ≤ 0) (kO (¬ (x5 < 0 ∨ 5 ≤ Int32.toNatClampNeg x5)) (kL (mSA SM 44 (upd (SM.2.1 44) (Int32.toNatClampNeg x5) x7)) (fun SM_20 => kL ((1 : Int32) <<< (x7 &&& 31)) (fun v21 => kL (v21 ^^^ (-1)) (fun v22 => kL (x3 &&& v22) (fun v23 => kL (x5 + 1) (fun v24 => k44 SM_20 x2 v23 x4 v24))))))) (f_X12_layOrder_b93 N k44 (f_X12_layOrder_l78 N k44 n) SM x2 x3 x4 x5 x6 x7))) := rfl
noncomputable def f_X12_layOrder_l44 (N : Nat) : Nat → zMS → Int32 → Int32 → Int32 → Int32 → Option (Int32 × zMS) := fun n => Nat.rec (motive := fun _ => zMS → Int32 → Int32 → Int32 → Int32 → Option (Int32 × zMS)) (fun _ _ _ _ _ => none) (fun _ ih SM x2 x3 x4 x5 => kB ((SM.1 0) ≤ x5) (some (1, SM)) (kL ((SM.1 0) - x5) (fun v8 => kO (¬ v8 = 0) (kL (x2 / v8) (fun v10 => kO (¬ v10 = 0) (kL (x4 / v10) (fun v12 => kO (¬ v10 = 0) (kL (x4 - x4 / v10 * v10) (fun v14 => f_X12_layOrder_l78 N ih N SM v10 x3 v14 x5 v12 0))))))))) n
theorem f_X12_layOrder_l44_z (N : Nat) (SM : zMS) (x2 : Int32) (x3 : Int32) (x4 : Int32) (x5 : Int32) : f_X12_layOrder_l44 N 0 SM x2 x3 x4 x5 = none := rfl
theorem f_X12_layOrder_l44_s (N : Nat) (n : Nat) (SM : zMS) (x2 : Int32) (x3 : Int32) (x4 : Int32) (x5 : Int32) : f_X12_layOrder_l44 N (n + 1) SM x2 x3 x4 x5 = kB ((SM.1 0) ≤ x5) (some (1, SM)) (kL ((SM.1 0) - x5) (fun v8 => kO (¬ v8 = 0) (kL (x2 / v8) (fun v10 => kO (¬ v10 = 0) (kL (x4 / v10) (fun v12 => kO (¬ v10 = 0) (kL (x4 - x4 / v10 * v10) (fun v14 => f_X12_layOrder_l78 N (f_X12_layOrder_l44 N n) N SM v10 x3 v14 x5 v12 0)))))))) := rfl
noncomputable def f_X12_layOrder_l4 (N : Nat) : Nat → zMS → Int32 → Int32 → Int32 → Option (Int32 × zMS) := fun n => Nat.rec (motive := fun _ => zMS → Int32 → Int32 → Int32 → Option (Int32 × zMS)) (fun _ _ _ _ => none) (fun _ ih SM x1 x2 x3 => kB ((SM.1 0) < x3) (kB (x1 < x2) (kL ((1 : Int32) <<< ((SM.1 0) &&& 31)) (fun v3 => kL (v3 - 1) (fun v4 => f_X12_layOrder_l44 N N SM x2 v4 x1 0))) (some (0, SM))) (kL (x2 * x3) (fun v5 => kL (x3 + 1) (fun v6 => ih SM x1 v5 v6)))) n
theorem f_X12_layOrder_l4_z (N : Nat) (SM : zMS) (x1 : Int32) (x2 : Int32) (x3 : Int32) : f_X12_layOrder_l4 N 0 SM x1 x2 x3 = none := rfl
theorem f_X12_layOrder_l4_s (N : Nat) (n : Nat) (SM : zMS) (x1 : Int32) (x2 : Int32) (x3 : Int32) : f_X12_layOrder_l4 N (n + 1) SM x1 x2 x3 = kB ((SM.1 0) < x3) (kB (x1 < x2) (kL ((1 : Int32) <<< ((SM.1 0) &&& 31)) (fun v3 => kL (v3 - 1) (fun v4 => f_X12_layOrder_l44 N N SM x2 v4 x1 0))) (some (0, SM))) (kL (x2 * x3) (fun v5 => kL (x3 + 1) (fun v6 => (f_X12_layOrder_l4 N n) SM x1 v5 v6))) := rfl
noncomputable def f_X12_layOrder (N : Nat) (SM : zMS) (a1 : Int32) : Option (Int32 × zMS) := f_X12_layOrder_l4 N N SM a1 1 2
theorem wv_X12_layOrder : zWV RX12 yX12_layOrder cX12_layOrder 8 (some .boolean) 1 := ⟨wd_37_22, wd_37_23, wd_1_5, wd_38_0, by decide +kernel⟩
def rm_X12_layOrder : Room := { frames := 1, cells := 0, slots := 0, locals := 22 }
set_option maxHeartbeats 4000000 in
set_option maxRecDepth 100000 in
theorem c_X12_layOrder {l : Launch} {G : va_G} {ct : Nat → ClassId} {aM : Nat → Nat} {N : Nat} {SM : zMS} {a1 : Int32} {r0 : Int32} {OM : zMS} (hf : f_X12_layOrder N SM a1 = some (r0, OM)) : zC l yX12_layOrder cX12_layOrder 8 (some .boolean) rm_X12_layOrder G ct [.ref (aM 200), .int a1] [wM aM ct SM] [wM aM ct OM] (some (.int r0)) 0 0 := by
  refine z_enter (own := RX12) (lv := [(0, .ref (aM 200)), (1, .int a1)]) (by decide) rfl (Nat.le_of_ble_eq_true rfl) rfl ?_
  intro p e s m args below meth c A E hr hnm
  have L44 : ∀ (n44 : Nat) (SM : zMS) (x2 : Int32) (x3 : Int32) (x4 : Int32) (x5 : Int32), f_X12_layOrder_l44 N n44 SM x2 x3 x4 x5 = some (r0, OM) → zJ p l e rm_X12_layOrder s m args below meth c (zQ G ct (some (.int r0)) [wM aM ct OM] A below args s 0 0) A G 8 0 0 [wM aM ct SM] [(0, .ref (aM 200)), (2, .int x2), (3, .int x3), (4, .int x4), (5, .int x5)] 44 [] := by
    intro n44
    induction n44 with
    | zero =>
      intro SM x2 x3 x4 x5 hf
      rw [f_X12_layOrder_l44_z] at hf
      cases hf
    | succ n44 ih44 =>
      have L78 : ∀ (n78 : Nat) (SM : zMS) (x2 : Int32) (x3 : Int32) (x4 : Int32) (x5 : Int32) (x6 : Int32) (x7 : Int32), f_X12_layOrder_l78 N (f_X12_layOrder_l44 N n44) n78 SM x2 x3 x4 x5 x6 x7 = some (r0, OM) → zJ p l e rm_X12_layOrder s m args below meth c (zQ G ct (some (.int r0)) [wM aM ct OM] A below args s 0 0) A G 8 0 0 [wM aM ct SM] [(0, .ref (aM 200)), (2, .int x2), (3, .int x3), (4, .int x4), (5, .int x5), (6, .int x6), (7, .int x7)] 78 [] := by
        intro n78
        induction n78 with
        | zero =>
          intro SM x2 x3 x4 x5 x6 x7 hf
          rw [f_X12_layOrder_l78_z] at hf
          cases hf
        | succ n78 ih78 =>
          have B93 : ∀ (SM : zMS) (x2 : Int32) (x3 : Int32) (x4 : Int32) (x5 : Int32) (x6 : Int32) (x7 : Int32), f_X12_layOrder_b93 N (f_X12_layOrder_l44 N n44) (f_X12_layOrder_l78 N (f_X12_layOrder_l44 N n44) n78) SM x2 x3 x4 x5 x6 x7 = some (r0, OM) → zJ p l e rm_X12_layOrder s m args below meth c (zQ G ct (some (.int r0)) [wM aM ct OM] A below args s 0 0) A G 8 0 0 [wM aM ct SM] [(0, .ref (aM 200)), (2, .int x2), (3, .int x3), (4, .int x4), (5, .int x5), (6, .int x6), (7, .int x7)] 93 [] := by
            intro SM x2 x3 x4 x5 x6 x7 hf
            unfold f_X12_layOrder_b93 at hf
            refine z_iload (pc := 93) (k0 := 5) E dX12_layOrder_93 rfl ?_
            refine z_aload_n (pc := 95) (k0 := 0) E dX12_layOrder_95 rfl rfl ?_
            refine z_iload_n (pc := 96) (k0 := 2) E dX12_layOrder_96 rfl rfl ?_
            refine z_iload (pc := 97) (k0 := 6) E dX12_layOrder_97 rfl ?_
            obtain ⟨r25, h26, hf⟩ := kC_e hf
            refine z_callV0 (pc := 99) (is := [0]) (n := 2) (As := [.int x3, .int x7]) (st := [.int x6]) (st' := [.int r25, .int x6]) (C2 := [wM aM ct SM]) E (c_X12_has (l := l) (G := G) (ct := ct) (aM := aM) h26) wv_X12_has wd_38_1 ⟨Nat.le_of_ble_eq_true rfl, Nat.le_of_ble_eq_true rfl, Nat.le_of_ble_eq_true rfl, Nat.le_of_ble_eq_true rfl⟩ rfl rfl rfl (by decide) rfl rfl (zrM (j := 0) rfl) rfl (Nat.le_of_ble_eq_true rfl) dX12_layOrder_99 rfl rfl ?_
            refine z_if_eq (pc := 102) (tgt := 109) E dX12_layOrder_102 (by decide) (fun c27 => ?_) (fun c27 => ?_)
            · have hf := kB_t hf c27
              refine z_iconst (pc := 109) (v := 0) E dX12_layOrder_109 (by decide) ?_
              obtain ⟨v28, e_v28, hf⟩ := kL_e hf
              refine z_isub (pc := 110) (v := v28) E dX12_layOrder_110 e_v28 ?_
              refine z_istore (pc := 111) (lv' := [(6, .int v28), (0, .ref (aM 200)), (2, .int x2), (3, .int x3), (4, .int x4), (5, .int x5), (7, .int x7)]) E dX12_layOrder_111 (by decide) rfl ?_
              obtain ⟨v29, e_v29, hf⟩ := kL_e hf
              refine z_iinc (pc := 113) (k0 := 6) (v := v29) (lv' := [(7, .int v29), (6, .int v28), (0, .ref (aM 200)), (2, .int x2), (3, .int x3), (4, .int x4), (5, .int x5)]) E dX12_layOrder_113 rfl e_v29 (by decide) rfl ?_
              refine z_goto (pc := 116) (tgt := 78) E dX12_layOrder_116 (by decide) ?_
              refine z_sub [2, 3, 4, 5, 6, 1, 0] (lv' := [(0, .ref (aM 200)), (2, .int x2), (3, .int x3), (4, .int x4), (5, .int x5), (6, .int v28), (7, .int v29)]) rfl ?_
              exact ih78 SM x2 x3 x4 x5 v28 v29 hf
            · have hf := kB_f hf c27
              refine z_iconst (pc := 105) (v := 1) E dX12_layOrder_105 (by decide) ?_
              refine z_goto (pc := 106) (tgt := 110) E dX12_layOrder_106 (by decide) ?_
              obtain ⟨v30, e_v30, hf⟩ := kL_e hf
              refine z_isub (pc := 110) (v := v30) E dX12_layOrder_110 e_v30 ?_
              refine z_istore (pc := 111) (lv' := [(6, .int v30), (0, .ref (aM 200)), (2, .int x2), (3, .int x3), (4, .int x4), (5, .int x5), (7, .int x7)]) E dX12_layOrder_111 (by decide) rfl ?_
              obtain ⟨v31, e_v31, hf⟩ := kL_e hf
              refine z_iinc (pc := 113) (k0 := 6) (v := v31) (lv' := [(7, .int v31), (6, .int v30), (0, .ref (aM 200)), (2, .int x2), (3, .int x3), (4, .int x4), (5, .int x5)]) E dX12_layOrder_113 rfl e_v31 (by decide) rfl ?_
              refine z_goto (pc := 116) (tgt := 78) E dX12_layOrder_116 (by decide) ?_
              refine z_sub [2, 3, 4, 5, 6, 1, 0] (lv' := [(0, .ref (aM 200)), (2, .int x2), (3, .int x3), (4, .int x4), (5, .int x5), (6, .int v30), (7, .int v31)]) rfl ?_
              exact ih78 SM x2 x3 x4 x5 v30 v31 hf
          intro SM x2 x3 x4 x5 x6 x7 hf
          rw [f_X12_layOrder_l78_s] at hf
          refine z_aload_n (pc := 78) (k0 := 0) E dX12_layOrder_78 rfl rfl ?_
          refine z_iload_n (pc := 79) (k0 := 2) E dX12_layOrder_79 rfl rfl ?_
          refine z_iload (pc := 80) (k0 := 6) E dX12_layOrder_80 rfl ?_
          obtain ⟨r15, h16, hf⟩ := kC_e hf
          refine z_callV0 (pc := 82) (is := [0]) (n := 2) (As := [.int x3, .int x7]) (st := []) (st' := [.int r15]) (C2 := [wM aM ct SM]) E (c_X12_has (l := l) (G := G) (ct := ct) (aM := aM) h16) wv_X12_has wd_38_1 ⟨Nat.le_of_ble_eq_true rfl, Nat.le_of_ble_eq_true rfl, Nat.le_of_ble_eq_true rfl, Nat.le_of_ble_eq_true rfl⟩ rfl rfl rfl (by decide) rfl rfl (zrM (j := 0) rfl) rfl (Nat.le_of_ble_eq_true rfl) dX12_layOrder_82 rfl rfl ?_
          refine z_if_eq (pc := 85) (tgt := 93) E dX12_layOrder_85 (by decide) (fun c17 => ?_) (fun c17 => ?_)
          · have hf := kB_t hf c17
            exact B93 SM x2 x3 x4 x5 x6 x7 hf
          · have hf := kB_f hf c17
            refine z_iload (pc := 88) (k0 := 5) E dX12_layOrder_88 rfl ?_
            refine z_if_le (pc := 90) (tgt := 119) E dX12_layOrder_90 (by decide) (fun c18 => ?_) (fun c18 => ?_)
            · have hf := kB_t hf c18
              refine z_aload_n (pc := 119) (k0 := 0) E dX12_layOrder_119 rfl rfl ?_
              refine gM_44 (pc := 120) (i := 0) E rfl wd_5_15 dX12_layOrder_120 ?_
              refine z_iload (pc := 123) (k0 := 4) E dX12_layOrder_123 rfl ?_
              refine z_iload (pc := 125) (k0 := 6) E dX12_layOrder_125 rfl ?_
              obtain ⟨c19, hf⟩ := kO_e hf
              obtain ⟨SM_20, e_SM_20, hf⟩ := kL_e hf
              refine sM_44 (pc := 127) (i := 0) (S1 := SM_20) E rfl c19 e_SM_20 dX12_layOrder_127 ?_
              show zJ p l e rm_X12_layOrder s m args below meth c (zQ G ct (some (.int r0)) [wM aM ct OM] A below args s 0 0) A G 8 0 0 [wM aM ct SM_20] [(0, .ref (aM 200)), (2, .int x2), (3, .int x3), (4, .int x4), (5, .int x5), (6, .int x6), (7, .int x7)] 128 []
              refine z_iload_n (pc := 128) (k0 := 2) E dX12_layOrder_128 rfl rfl ?_
              refine z_iconst (pc := 129) (v := 1) E dX12_layOrder_129 (by decide) ?_
              refine z_iload (pc := 130) (k0 := 6) E dX12_layOrder_130 rfl ?_
              obtain ⟨v21, e_v21, hf⟩ := kL_e hf
              refine z_ishl (pc := 132) (v := v21) E dX12_layOrder_132 e_v21 ?_
              refine z_iconst (pc := 133) (v := (-1)) E dX12_layOrder_133 (by decide) ?_
              obtain ⟨v22, e_v22, hf⟩ := kL_e hf
              refine z_ixor (pc := 134) (v := v22) E dX12_layOrder_134 e_v22 ?_
              obtain ⟨v23, e_v23, hf⟩ := kL_e hf
              refine z_iand (pc := 135) (v := v23) E dX12_layOrder_135 e_v23 ?_
              refine z_istore_n (pc := 136) (lv' := [(3, .int v23), (0, .ref (aM 200)), (2, .int x2), (4, .int x4), (5, .int x5), (6, .int x6), (7, .int x7)]) E dX12_layOrder_136 rfl (by decide) rfl ?_
              obtain ⟨v24, e_v24, hf⟩ := kL_e hf
              refine z_iinc (pc := 137) (k0 := 4) (v := v24) (lv' := [(5, .int v24), (3, .int v23), (0, .ref (aM 200)), (2, .int x2), (4, .int x4), (6, .int x6), (7, .int x7)]) E dX12_layOrder_137 rfl e_v24 (by decide) rfl ?_
              refine z_goto (pc := 140) (tgt := 44) E dX12_layOrder_140 (by decide) ?_
              refine z_sub [2, 3, 1, 4, 0] (lv' := [(0, .ref (aM 200)), (2, .int x2), (3, .int v23), (4, .int x4), (5, .int v24)]) rfl ?_
              exact ih44 SM_20 x2 v23 x4 v24 hf
            · have hf := kB_f hf c18
              exact B93 SM x2 x3 x4 x5 x6 x7 hf
      intro SM x2 x3 x4 x5 hf
      rw [f_X12_layOrder_l44_s] at hf
      refine z_iload (pc := 44) (k0 := 4) E dX12_layOrder_44 rfl ?_
      refine z_aload_n (pc := 46) (k0 := 0) E dX12_layOrder_46 rfl rfl ?_
      refine gM_0 (pc := 47) (i := 0) E rfl wd_3_19 dX12_layOrder_47 ?_
      refine z_icmp_ge (pc := 50) (tgt := 143) E dX12_layOrder_50 (by decide) (fun c7 => ?_) (fun c7 => ?_)
      · have hf := kB_t hf c7
        refine z_iconst (pc := 143) (v := 1) E dX12_layOrder_143 (by decide) ?_
        cases hf
        exact z_zret E hr (by decide) dX12_layOrder_144
      · have hf := kB_f hf c7
        refine z_iload_n (pc := 53) (k0 := 1) E dX12_layOrder_53 rfl rfl ?_
        refine z_aload_n (pc := 54) (k0 := 0) E dX12_layOrder_54 rfl rfl ?_
        refine gM_0 (pc := 55) (i := 0) E rfl wd_3_19 dX12_layOrder_55 ?_
        refine z_iload (pc := 58) (k0 := 4) E dX12_layOrder_58 rfl ?_
        obtain ⟨v8, e_v8, hf⟩ := kL_e hf
        refine z_isub (pc := 60) (v := v8) E dX12_layOrder_60 e_v8 ?_
        obtain ⟨c9, hf⟩ := kO_e hf
        obtain ⟨v10, e_v10, hf⟩ := kL_e hf
        refine z_idiv (pc := 61) (v := v10) E dX12_layOrder_61 c9 e_v10 ?_
        refine z_istore_n (pc := 62) (lv' := [(2, .int v10), (0, .ref (aM 200)), (3, .int x3), (4, .int x4), (5, .int x5)]) E dX12_layOrder_62 rfl (by decide) rfl ?_
        refine z_iload (pc := 63) (k0 := 3) E dX12_layOrder_63 rfl ?_
        refine z_iload_n (pc := 65) (k0 := 0) E dX12_layOrder_65 rfl rfl ?_
        obtain ⟨c11, hf⟩ := kO_e hf
        obtain ⟨v12, e_v12, hf⟩ := kL_e hf
        refine z_idiv (pc := 66) (v := v12) E dX12_layOrder_66 c11 e_v12 ?_
        refine z_istore (pc := 67) (lv' := [(6, .int v12), (2, .int v10), (0, .ref (aM 200)), (3, .int x3), (4, .int x4), (5, .int x5)]) E dX12_layOrder_67 (by decide) rfl ?_
        refine z_iload (pc := 69) (k0 := 4) E dX12_layOrder_69 rfl ?_
        refine z_iload_n (pc := 71) (k0 := 1) E dX12_layOrder_71 rfl rfl ?_
        obtain ⟨c13, hf⟩ := kO_e hf
        obtain ⟨v14, e_v14, hf⟩ := kL_e hf
        refine z_irem (pc := 72) (v := v14) E dX12_layOrder_72 c13 e_v14 ?_
        refine z_istore (pc := 73) (lv' := [(4, .int v14), (6, .int v12), (2, .int v10), (0, .ref (aM 200)), (3, .int x3), (5, .int x5)]) E dX12_layOrder_73 (by decide) rfl ?_
        refine z_iconst (pc := 75) (v := 0) E dX12_layOrder_75 (by decide) ?_
        refine z_istore (pc := 76) (lv' := [(7, .int 0), (4, .int v14), (6, .int v12), (2, .int v10), (0, .ref (aM 200)), (3, .int x3), (5, .int x5)]) E dX12_layOrder_76 (by decide) rfl ?_
        refine z_sub [4, 3, 5, 1, 6, 2, 0] (lv' := [(0, .ref (aM 200)), (2, .int v10), (3, .int x3), (4, .int v14), (5, .int x5), (6, .int v12), (7, .int 0)]) rfl ?_
        exact L78 N SM v10 x3 v14 x5 v12 0 hf
  have L4 : ∀ (n4 : Nat) (SM : zMS) (x1 : Int32) (x2 : Int32) (x3 : Int32), f_X12_layOrder_l4 N n4 SM x1 x2 x3 = some (r0, OM) → zJ p l e rm_X12_layOrder s m args below meth c (zQ G ct (some (.int r0)) [wM aM ct OM] A below args s 0 0) A G 8 0 0 [wM aM ct SM] [(0, .ref (aM 200)), (1, .int x1), (2, .int x2), (3, .int x3)] 4 [] := by
    intro n4
    induction n4 with
    | zero =>
      intro SM x1 x2 x3 hf
      rw [f_X12_layOrder_l4_z] at hf
      cases hf
    | succ n4 ih4 =>
      intro SM x1 x2 x3 hf
      rw [f_X12_layOrder_l4_s] at hf
      refine z_iload_n (pc := 4) (k0 := 3) E dX12_layOrder_4 rfl rfl ?_
      refine z_aload_n (pc := 5) (k0 := 0) E dX12_layOrder_5 rfl rfl ?_
      refine gM_0 (pc := 6) (i := 0) E rfl wd_3_19 dX12_layOrder_6 ?_
      refine z_icmp_gt (pc := 9) (tgt := 22) E dX12_layOrder_9 (by decide) (fun c1 => ?_) (fun c1 => ?_)
      · have hf := kB_t hf c1
        refine z_iload_n (pc := 22) (k0 := 1) E dX12_layOrder_22 rfl rfl ?_
        refine z_iload_n (pc := 23) (k0 := 2) E dX12_layOrder_23 rfl rfl ?_
        refine z_icmp_lt (pc := 24) (tgt := 29) E dX12_layOrder_24 (by decide) (fun c2 => ?_) (fun c2 => ?_)
        · have hf := kB_t hf c2
          refine z_iconst (pc := 29) (v := 1) E dX12_layOrder_29 (by decide) ?_
          refine z_aload_n (pc := 30) (k0 := 0) E dX12_layOrder_30 rfl rfl ?_
          refine gM_0 (pc := 31) (i := 0) E rfl wd_3_19 dX12_layOrder_31 ?_
          obtain ⟨v3, e_v3, hf⟩ := kL_e hf
          refine z_ishl (pc := 34) (v := v3) E dX12_layOrder_34 e_v3 ?_
          refine z_iconst (pc := 35) (v := 1) E dX12_layOrder_35 (by decide) ?_
          obtain ⟨v4, e_v4, hf⟩ := kL_e hf
          refine z_isub (pc := 36) (v := v4) E dX12_layOrder_36 e_v4 ?_
          refine z_istore_n (pc := 37) (lv' := [(3, .int v4), (0, .ref (aM 200)), (1, .int x1), (2, .int x2)]) E dX12_layOrder_37 rfl (by decide) rfl ?_
          refine z_iload_n (pc := 38) (k0 := 2) E dX12_layOrder_38 rfl rfl ?_
          refine z_istore (pc := 39) (lv' := [(4, .int x1), (3, .int v4), (0, .ref (aM 200)), (1, .int x1), (2, .int x2)]) E dX12_layOrder_39 (by decide) rfl ?_
          refine z_iconst (pc := 41) (v := 0) E dX12_layOrder_41 (by decide) ?_
          refine z_istore (pc := 42) (lv' := [(5, .int 0), (4, .int x1), (3, .int v4), (0, .ref (aM 200)), (1, .int x1), (2, .int x2)]) E dX12_layOrder_42 (by decide) rfl ?_
          refine z_sub [3, 5, 2, 1, 0] (lv' := [(0, .ref (aM 200)), (2, .int x2), (3, .int v4), (4, .int x1), (5, .int 0)]) rfl ?_
          exact L44 N SM x2 v4 x1 0 hf
        · have hf := kB_f hf c2
          refine z_iconst (pc := 27) (v := 0) E dX12_layOrder_27 (by decide) ?_
          cases hf
          exact z_zret E hr (by decide) dX12_layOrder_28
      · have hf := kB_f hf c1
        refine z_iload_n (pc := 12) (k0 := 2) E dX12_layOrder_12 rfl rfl ?_
        refine z_iload_n (pc := 13) (k0 := 3) E dX12_layOrder_13 rfl rfl ?_
        obtain ⟨v5, e_v5, hf⟩ := kL_e hf
        refine z_imul (pc := 14) (v := v5) E dX12_layOrder_14 e_v5 ?_
        refine z_istore_n (pc := 15) (lv' := [(2, .int v5), (0, .ref (aM 200)), (1, .int x1), (3, .int x3)]) E dX12_layOrder_15 rfl (by decide) rfl ?_
        obtain ⟨v6, e_v6, hf⟩ := kL_e hf
        refine z_iinc (pc := 16) (k0 := 3) (v := v6) (lv' := [(3, .int v6), (2, .int v5), (0, .ref (aM 200)), (1, .int x1)]) E dX12_layOrder_16 rfl e_v6 (by decide) rfl ?_
        refine z_goto (pc := 19) (tgt := 4) E dX12_layOrder_19 (by decide) ?_
        refine z_sub [2, 3, 1, 0] (lv' := [(0, .ref (aM 200)), (1, .int x1), (2, .int v5), (3, .int v6)]) rfl ?_
        exact ih4 SM x1 v5 v6 hf
  unfold f_X12_layOrder at hf
  refine z_iconst (pc := 0) (v := 1) E dX12_layOrder_0 (by decide) ?_
  refine z_istore_n (pc := 1) (lv' := [(2, .int 1), (0, .ref (aM 200)), (1, .int a1)]) E dX12_layOrder_1 rfl (by decide) rfl ?_
  refine z_iconst (pc := 2) (v := 2) E dX12_layOrder_2 (by decide) ?_
  refine z_istore_n (pc := 3) (lv' := [(3, .int 2), (2, .int 1), (0, .ref (aM 200)), (1, .int a1)]) E dX12_layOrder_3 rfl (by decide) rfl ?_
  refine z_sub [2, 3, 1, 0] (lv' := [(0, .ref (aM 200)), (1, .int a1), (2, .int 1), (3, .int 2)]) rfl ?_
  exact L4 N SM a1 1 2 hf
noncomputable def f_X12_spentAsOrdered_l31 (N : Nat) : Nat → zMS → Int32 → Int32 → Option (Int32 × zMS) := fun n => Nat.rec (motive := fun _ => zMS → Int32 → Int32 → Option (Int32 × zMS)) (fun _ _ _ => none) (fun _ ih SM x1 x2 => kB (60 ≤ x2) (kC (f_X12_putBack N SM) (fun SM_9 => some ((SM_9.1 35), SM_9))) (kC (f_X12_isOver N SM) (fun r11 => kB (r11 = 0) (kO (¬ (SM.1 0) = 0) (kL (x2 - x2 / (SM.1 0) * (SM.1 0)) (fun v17 => kO (¬ (v17 < 0 ∨ 5 ≤ Int32.toNatClampNeg v17)) (kD (f_X12_asks N SM x1 (SM.2.1 44 (Int32.toNatClampNeg v17))) (fun r19 SM_20 => kL (x2 + 1) (fun v22 => ih SM_20 x1 v22)))))) (kC (f_X12_putBack N SM) (fun SM_14 => some ((SM_14.1 35), SM_14)))))) n
theorem f_X12_spentAsOrdered_l31_z (N : Nat) (SM : zMS) (x1 : Int32) (x2 : Int32) : f_X12_spentAsOrdered_l31 N 0 SM x1 x2 = none := rfl
theorem f_X12_spentAsOrdered_l31_s (N : Nat) (n : Nat) (SM : zMS) (x1 : Int32) (x2 : Int32) : f_X12_spentAsOrdered_l31 N (n + 1) SM x1 x2 = kB (60 ≤ x2) (kC (f_X12_putBack N SM) (fun SM_9 => some ((SM_9.1 35), SM_9))) (kC (f_X12_isOver N SM) (fun r11 => kB (r11 = 0) (kO (¬ (SM.1 0) = 0) (kL (x2 - x2 / (SM.1 0) * (SM.1 0)) (fun v17 => kO (¬ (v17 < 0 ∨ 5 ≤ Int32.toNatClampNeg v17)) (kD (f_X12_asks N SM x1 (SM.2.1 44 (Int32.toNatClampNeg v17))) (fun r19 SM_20 => kL (x2 + 1) (fun v22 => (f_X12_spentAsOrdered_l31 N n) SM_20 x1 v22)))))) (kC (f_X12_putBack N SM) (fun SM_14 => some ((SM_14.1 35), SM_14))))) := rfl
noncomputable def f_X12_spentAsOrdered (N : Nat) (SM : zMS) (a1 : Int32) : Option (Int32 × zMS) := kC (f_X12_save N SM) (fun SM_1 => kL (mSI SM_1 3 0) (fun SM_3 => kL (mSI SM_3 4 0) (fun SM_4 => kL (mSI SM_4 5 0) (fun SM_5 => kL (mSI SM_5 6 0) (fun SM_6 => kL (mSI SM_6 35 0) (fun SM_7 => f_X12_spentAsOrdered_l31 N N SM_7 a1 0))))))
theorem wv_X12_spentAsOrdered : zWV RX12 yX12_spentAsOrdered cX12_spentAsOrdered 4 (some .int) 1 := ⟨wd_38_6, wd_38_7, wd_1_5, wd_38_8, by decide +kernel⟩
def rm_X12_spentAsOrdered : Room := { frames := 6, cells := 0, slots := 0, locals := 130 }
set_option maxHeartbeats 4000000 in
set_option maxRecDepth 100000 in
theorem c_X12_spentAsOrdered {l : Launch} {G : va_G} {ct : Nat → ClassId} {aM : Nat → Nat} {N : Nat} {SM : zMS} {a1 : Int32} {r0 : Int32} {OM : zMS} (hf : f_X12_spentAsOrdered N SM a1 = some (r0, OM)) : zC l yX12_spentAsOrdered cX12_spentAsOrdered 4 (some .int) rm_X12_spentAsOrdered G ct [.ref (aM 200), .int a1] [wM aM ct SM] [wM aM ct OM] (some (.int r0)) 0 0 := by
  refine z_enter (own := RX12) (lv := [(0, .ref (aM 200)), (1, .int a1)]) (by decide) rfl (Nat.le_of_ble_eq_true rfl) rfl ?_
  intro p e s m args below meth c A E hr hnm
  have L31 : ∀ (n31 : Nat) (SM : zMS) (x1 : Int32) (x2 : Int32), f_X12_spentAsOrdered_l31 N n31 SM x1 x2 = some (r0, OM) → zJ p l e rm_X12_spentAsOrdered s m args below meth c (zQ G ct (some (.int r0)) [wM aM ct OM] A below args s 0 0) A G 4 0 0 [wM aM ct SM] [(0, .ref (aM 200)), (1, .int x1), (2, .int x2)] 31 [] := by
    intro n31
    induction n31 with
    | zero =>
      intro SM x1 x2 hf
      rw [f_X12_spentAsOrdered_l31_z] at hf
      cases hf
    | succ n31 ih31 =>
      intro SM x1 x2 hf
      rw [f_X12_spentAsOrdered_l31_s] at hf
      refine z_iload_n (pc := 31) (k0 := 2) E dX12_spentAsOrdered_31 rfl rfl ?_
      refine z_bipush (pc := 32) (v := 60) E dX12_spentAsOrdered_32 (by decide) ?_
      refine z_icmp_ge (pc := 34) (tgt := 67) E dX12_spentAsOrdered_34 (by decide) (fun c8 => ?_) (fun c8 => ?_)
      · have hf := kB_t hf c8
        refine z_aload_n (pc := 67) (k0 := 0) E dX12_spentAsOrdered_67 rfl rfl ?_
        obtain ⟨SM_9, h10, hf⟩ := kC_e hf
        refine z_callV0 (pc := 68) (is := [0]) (n := 0) (As := []) (st := []) (st' := []) (C2 := [wM aM ct SM_9]) E (c_X12_putBack (l := l) (G := G) (ct := ct) (aM := aM) h10) wv_X12_putBack wd_34_13 ⟨Nat.le_of_ble_eq_true rfl, Nat.le_of_ble_eq_true rfl, Nat.le_of_ble_eq_true rfl, Nat.le_of_ble_eq_true rfl⟩ rfl rfl rfl (by decide) rfl rfl (zrM (j := 0) rfl) rfl (Nat.le_of_ble_eq_true rfl) dX12_spentAsOrdered_68 rfl rfl ?_
        refine z_aload_n (pc := 71) (k0 := 0) E dX12_spentAsOrdered_71 rfl rfl ?_
        refine gM_35 (pc := 72) (i := 0) E rfl wd_5_6 dX12_spentAsOrdered_72 ?_
        cases hf
        exact z_iret E hr dX12_spentAsOrdered_75
      · have hf := kB_f hf c8
        refine z_aload_n (pc := 37) (k0 := 0) E dX12_spentAsOrdered_37 rfl rfl ?_
        obtain ⟨r11, h12, hf⟩ := kC_e hf
        refine z_callV0 (pc := 38) (is := [0]) (n := 0) (As := []) (st := []) (st' := [.int r11]) (C2 := [wM aM ct SM]) E (c_X12_isOver (l := l) (G := G) (ct := ct) (aM := aM) h12) wv_X12_isOver wd_30_12 ⟨Nat.le_of_ble_eq_true rfl, Nat.le_of_ble_eq_true rfl, Nat.le_of_ble_eq_true rfl, Nat.le_of_ble_eq_true rfl⟩ rfl rfl rfl (by decide) rfl rfl (zrM (j := 0) rfl) rfl (Nat.le_of_ble_eq_true rfl) dX12_spentAsOrdered_38 rfl rfl ?_
        refine z_if_ne (pc := 41) (tgt := 67) E dX12_spentAsOrdered_41 (by decide) (fun c13 => ?_) (fun c13 => ?_)
        · have hf := kB_f hf c13
          refine z_aload_n (pc := 67) (k0 := 0) E dX12_spentAsOrdered_67 rfl rfl ?_
          obtain ⟨SM_14, h15, hf⟩ := kC_e hf
          refine z_callV0 (pc := 68) (is := [0]) (n := 0) (As := []) (st := []) (st' := []) (C2 := [wM aM ct SM_14]) E (c_X12_putBack (l := l) (G := G) (ct := ct) (aM := aM) h15) wv_X12_putBack wd_34_13 ⟨Nat.le_of_ble_eq_true rfl, Nat.le_of_ble_eq_true rfl, Nat.le_of_ble_eq_true rfl, Nat.le_of_ble_eq_true rfl⟩ rfl rfl rfl (by decide) rfl rfl (zrM (j := 0) rfl) rfl (Nat.le_of_ble_eq_true rfl) dX12_spentAsOrdered_68 rfl rfl ?_
          refine z_aload_n (pc := 71) (k0 := 0) E dX12_spentAsOrdered_71 rfl rfl ?_
          refine gM_35 (pc := 72) (i := 0) E rfl wd_5_6 dX12_spentAsOrdered_72 ?_
          cases hf
          exact z_iret E hr dX12_spentAsOrdered_75
        · have hf := kB_t hf c13
          refine z_aload_n (pc := 44) (k0 := 0) E dX12_spentAsOrdered_44 rfl rfl ?_
          refine z_iload_n (pc := 45) (k0 := 1) E dX12_spentAsOrdered_45 rfl rfl ?_
          refine z_aload_n (pc := 46) (k0 := 0) E dX12_spentAsOrdered_46 rfl rfl ?_
          refine gM_44 (pc := 47) (i := 0) E rfl wd_5_15 dX12_spentAsOrdered_47 ?_
          refine z_iload_n (pc := 50) (k0 := 2) E dX12_spentAsOrdered_50 rfl rfl ?_
          refine z_aload_n (pc := 51) (k0 := 0) E dX12_spentAsOrdered_51 rfl rfl ?_
          refine gM_0 (pc := 52) (i := 0) E rfl wd_3_19 dX12_spentAsOrdered_52 ?_
          obtain ⟨c16, hf⟩ := kO_e hf
          obtain ⟨v17, e_v17, hf⟩ := kL_e hf
          refine z_irem (pc := 55) (v := v17) E dX12_spentAsOrdered_55 c16 e_v17 ?_
          obtain ⟨c18, hf⟩ := kO_e hf
          refine lM_44 (pc := 56) (i := 0) E rfl c18 dX12_spentAsOrdered_56 ?_
          obtain ⟨r19, SM_20, h21, hf⟩ := kD_e hf
          refine z_callV0 (pc := 57) (is := [0]) (n := 2) (As := [.int x1, .int (SM.2.1 44 (Int32.toNatClampNeg v17))]) (st := []) (st' := [.int r19]) (C2 := [wM aM ct SM_20]) E (c_X12_asks (l := l) (G := G) (ct := ct) (aM := aM) h21) wv_X12_asks wd_31_0 ⟨Nat.le_of_ble_eq_true rfl, Nat.le_of_ble_eq_true rfl, Nat.le_of_ble_eq_true rfl, Nat.le_of_ble_eq_true rfl⟩ rfl rfl rfl (by decide) rfl rfl (zrM (j := 0) rfl) rfl (Nat.le_of_ble_eq_true rfl) dX12_spentAsOrdered_57 rfl rfl ?_
          refine z_istore_n (pc := 60) (lv' := [(3, .int r19), (0, .ref (aM 200)), (1, .int x1), (2, .int x2)]) E dX12_spentAsOrdered_60 rfl (by decide) rfl ?_
          obtain ⟨v22, e_v22, hf⟩ := kL_e hf
          refine z_iinc (pc := 61) (k0 := 3) (v := v22) (lv' := [(2, .int v22), (3, .int r19), (0, .ref (aM 200)), (1, .int x1)]) E dX12_spentAsOrdered_61 rfl e_v22 (by decide) rfl ?_
          refine z_goto (pc := 64) (tgt := 31) E dX12_spentAsOrdered_64 (by decide) ?_
          refine z_sub [2, 3, 0] (lv' := [(0, .ref (aM 200)), (1, .int x1), (2, .int v22)]) rfl ?_
          exact ih31 SM_20 x1 v22 hf
  unfold f_X12_spentAsOrdered at hf
  refine z_aload_n (pc := 0) (k0 := 0) E dX12_spentAsOrdered_0 rfl rfl ?_
  obtain ⟨SM_1, h2, hf⟩ := kC_e hf
  refine z_callV0 (pc := 1) (is := [0]) (n := 0) (As := []) (st := []) (st' := []) (C2 := [wM aM ct SM_1]) E (c_X12_save (l := l) (G := G) (ct := ct) (aM := aM) h2) wv_X12_save wd_34_5 ⟨Nat.le_of_ble_eq_true rfl, Nat.le_of_ble_eq_true rfl, Nat.le_of_ble_eq_true rfl, Nat.le_of_ble_eq_true rfl⟩ rfl rfl rfl (by decide) rfl rfl (zrM (j := 0) rfl) rfl (Nat.le_of_ble_eq_true rfl) dX12_spentAsOrdered_1 rfl rfl ?_
  refine z_aload_n (pc := 4) (k0 := 0) E dX12_spentAsOrdered_4 rfl rfl ?_
  refine z_iconst (pc := 5) (v := 0) E dX12_spentAsOrdered_5 (by decide) ?_
  obtain ⟨SM_3, e_SM_3, hf⟩ := kL_e hf
  refine pM_3 (pc := 6) (i := 0) (S1 := SM_3) E rfl e_SM_3 wd_3_22 dX12_spentAsOrdered_6 ?_
  show zJ p l e rm_X12_spentAsOrdered s m args below meth c (zQ G ct (some (.int r0)) [wM aM ct OM] A below args s 0 0) A G 4 0 0 [wM aM ct SM_3] [(0, .ref (aM 200)), (1, .int a1)] 9 []
  refine z_aload_n (pc := 9) (k0 := 0) E dX12_spentAsOrdered_9 rfl rfl ?_
  refine z_iconst (pc := 10) (v := 0) E dX12_spentAsOrdered_10 (by decide) ?_
  obtain ⟨SM_4, e_SM_4, hf⟩ := kL_e hf
  refine pM_4 (pc := 11) (i := 0) (S1 := SM_4) E rfl e_SM_4 wd_3_23 dX12_spentAsOrdered_11 ?_
  show zJ p l e rm_X12_spentAsOrdered s m args below meth c (zQ G ct (some (.int r0)) [wM aM ct OM] A below args s 0 0) A G 4 0 0 [wM aM ct SM_4] [(0, .ref (aM 200)), (1, .int a1)] 14 []
  refine z_aload_n (pc := 14) (k0 := 0) E dX12_spentAsOrdered_14 rfl rfl ?_
  refine z_iconst (pc := 15) (v := 0) E dX12_spentAsOrdered_15 (by decide) ?_
  obtain ⟨SM_5, e_SM_5, hf⟩ := kL_e hf
  refine pM_5 (pc := 16) (i := 0) (S1 := SM_5) E rfl e_SM_5 wd_4_0 dX12_spentAsOrdered_16 ?_
  show zJ p l e rm_X12_spentAsOrdered s m args below meth c (zQ G ct (some (.int r0)) [wM aM ct OM] A below args s 0 0) A G 4 0 0 [wM aM ct SM_5] [(0, .ref (aM 200)), (1, .int a1)] 19 []
  refine z_aload_n (pc := 19) (k0 := 0) E dX12_spentAsOrdered_19 rfl rfl ?_
  refine z_iconst (pc := 20) (v := 0) E dX12_spentAsOrdered_20 (by decide) ?_
  obtain ⟨SM_6, e_SM_6, hf⟩ := kL_e hf
  refine pM_6 (pc := 21) (i := 0) (S1 := SM_6) E rfl e_SM_6 wd_4_1 dX12_spentAsOrdered_21 ?_
  show zJ p l e rm_X12_spentAsOrdered s m args below meth c (zQ G ct (some (.int r0)) [wM aM ct OM] A below args s 0 0) A G 4 0 0 [wM aM ct SM_6] [(0, .ref (aM 200)), (1, .int a1)] 24 []
  refine z_aload_n (pc := 24) (k0 := 0) E dX12_spentAsOrdered_24 rfl rfl ?_
  refine z_iconst (pc := 25) (v := 0) E dX12_spentAsOrdered_25 (by decide) ?_
  obtain ⟨SM_7, e_SM_7, hf⟩ := kL_e hf
  refine pM_35 (pc := 26) (i := 0) (S1 := SM_7) E rfl e_SM_7 wd_5_6 dX12_spentAsOrdered_26 ?_
  show zJ p l e rm_X12_spentAsOrdered s m args below meth c (zQ G ct (some (.int r0)) [wM aM ct OM] A below args s 0 0) A G 4 0 0 [wM aM ct SM_7] [(0, .ref (aM 200)), (1, .int a1)] 29 []
  refine z_iconst (pc := 29) (v := 0) E dX12_spentAsOrdered_29 (by decide) ?_
  refine z_istore_n (pc := 30) (lv' := [(2, .int 0), (0, .ref (aM 200)), (1, .int a1)]) E dX12_spentAsOrdered_30 rfl (by decide) rfl ?_
  refine z_sub [1, 2, 0] (lv' := [(0, .ref (aM 200)), (1, .int a1), (2, .int 0)]) rfl ?_
  exact L31 N SM_7 a1 0 hf
noncomputable def f_X12_order_l67 (N : Nat) (k36 : zMS → Int32 → Int32 → Int32 → Int32 → Option (Int32 × zMS)) : Nat → zMS → Int32 → Int32 → Int32 → Int32 → Int32 → Option (Int32 × zMS) := fun n => Nat.rec (motive := fun _ => zMS → Int32 → Int32 → Int32 → Int32 → Int32 → Option (Int32 × zMS)) (fun _ _ _ _ _ _ => none) (fun _ ih SM x1 x2 x3 x4 x6 => kB (5 ≤ x6) (kL (x4 + 1) (fun v21 => k36 SM x1 x2 x3 v21)) (kO (¬ (x6 < 0 ∨ 5 ≤ Int32.toNatClampNeg x6)) (kO (¬ (x6 < 0 ∨ 5 ≤ Int32.toNatClampNeg x6)) (kL (mSA SM 45 (upd (SM.2.1 45) (Int32.toNatClampNeg x6) (SM.2.1 44 (Int32.toNatClampNeg x6)))) (fun SM_24 => kL (x6 + 1) (fun v25 => ih SM_24 x1 x2 x3 x4 v25)))))) n
theorem f_X12_order_l67_z (N : Nat) (k36 : zMS → Int32 → Int32 → Int32 → Int32 → Option (Int32 × zMS)) (SM : zMS) (x1 : Int32) (x2 : Int32) (x3 : Int32) (x4 : Int32) (x6 : Int32) : f_X12_order_l67 N k36 0 SM x1 x2 x3 x4 x6 = none := rfl
theorem f_X12_order_l67_s (N : Nat) (k36 : zMS → Int32 → Int32 → Int32 → Int32 → Option (Int32 × zMS)) (n : Nat) (SM : zMS) (x1 : Int32) (x2 : Int32) (x3 : Int32) (x4 : Int32) (x6 : Int32) : f_X12_order_l67 N k36 (n + 1) SM x1 x2 x3 x4 x6 = kB (5 ≤ x6) (kL (x4 + 1) (fun v21 => k36 SM x1 x2 x3 v21)) (kO (¬ (x6 < 0 ∨ 5 ≤ Int32.toNatClampNeg x6)) (kO (¬ (x6 < 0 ∨ 5 ≤ Int32.toNatClampNeg x6)) (kL (mSA SM 45 (upd (SM.2.1 45) (Int32.toNatClampNeg x6) (SM.2.1 44 (Int32.toNatClampNeg x6)))) (fun SM_24 => kL (x6 + 1) (fun v25 => (f_X12_order_l67 N k36 n) SM_24 x1 x2 x3 x4 v25))))) := rfl
noncomputable def f_X12_order_l36 (N : Nat) : Nat → zMS → Int32 → Int32 → Int32 → Int32 → Option (Int32 × zMS) := fun n => Nat.rec (motive := fun _ => zMS → Int32 → Int32 → Int32 → Int32 → Option (Int32 × zMS)) (fun _ _ _ _ _ => none) (fun _ ih SM x1 x2 x3 x4 => kD (f_X12_layOrder N SM x4) (fun r8 SM_9 => kB (r8 = 0) (kB (0 ≤ x2) (kB ((SM_9.1 0) ≤ x2) (some ((-5), SM_9)) (kO (¬ (x2 < 0 ∨ 5 ≤ Int32.toNatClampNeg x2)) (some ((SM_9.2.1 45 (Int32.toNatClampNeg x2)), SM_9)))) (some (x3, SM_9))) (kD (f_X12_spentAsOrdered N SM_9 x1) (fun r15 SM_16 => kB (x3 < r15) (f_X12_order_l67 N ih N SM_16 x1 x2 r15 x4 0) (kL (x4 + 1) (fun v19 => ih SM_16 x1 x2 x3 v19)))))) n
theorem f_X12_order_l36_z (N : Nat) (SM : zMS) (x1 : Int32) (x2 : Int32) (x3 : Int32) (x4 : Int32) : f_X12_order_l36 N 0 SM x1 x2 x3 x4 = none := rfl
theorem f_X12_order_l36_s (N : Nat) (n : Nat) (SM : zMS) (x1 : Int32) (x2 : Int32) (x3 : Int32) (x4 : Int32) : f_X12_order_l36 N (n + 1) SM x1 x2 x3 x4 = kD (f_X12_layOrder N SM x4) (fun r8 SM_9 => kB (r8 = 0) (kB (0 ≤ x2) (kB ((SM_9.1 0) ≤ x2) (some ((-5), SM_9)) (kO (¬ (x2 < 0 ∨ 5 ≤ Int32.toNatClampNeg x2)) (some ((SM_9.2.1 45 (Int32.toNatClampNeg x2)), SM_9)))) (some (x3, SM_9))) (kD (f_X12_spentAsOrdered N SM_9 x1) (fun r15 SM_16 => kB (x3 < r15) (f_X12_order_l67 N (f_X12_order_l36 N n) N SM_16 x1 x2 r15 x4 0) (kL (x4 + 1) (fun v19 => (f_X12_order_l36 N n) SM_16 x1 x2 x3 v19))))) := rfl
noncomputable def f_X12_order (N : Nat) (SM : zMS) (a1 : Int32) (a2 : Int32) : Option (Int32 × zMS) := kC (f_X12_isParent SM a1) (fun r1 => kB (r1 = 0) (some ((-1), SM)) (kC (f_X12_in SM a2 (-1) 4) (fun r4 => kB (r4 = 0) (some ((-1), SM)) (kB ((SM.1 0) ≤ 5) (f_X12_order_l36 N N SM a1 a2 (-1) 0) (some ((-9), SM))))))
theorem wv_X12_order : zWV RX12 yX12_order cX12_order 7 (some .int) 2 := ⟨wd_37_18, wd_37_19, wd_1_5, wd_37_20, by decide +kernel⟩
def rm_X12_order : Room := { frames := 7, cells := 0, slots := 0, locals := 153 }
set_option maxHeartbeats 4000000 in
set_option maxRecDepth 100000 in
theorem c_X12_order {l : Launch} {G : va_G} {ct : Nat → ClassId} {aM : Nat → Nat} {N : Nat} {SM : zMS} {a1 : Int32} {a2 : Int32} {r0 : Int32} {OM : zMS} (hf : f_X12_order N SM a1 a2 = some (r0, OM)) : zC l yX12_order cX12_order 7 (some .int) rm_X12_order G ct [.ref (aM 200), .int a1, .int a2] [wM aM ct SM] [wM aM ct OM] (some (.int r0)) 0 0 := by
  refine z_enter (own := RX12) (lv := [(0, .ref (aM 200)), (1, .int a1), (2, .int a2)]) (by decide) rfl (Nat.le_of_ble_eq_true rfl) rfl ?_
  intro p e s m args below meth c A E hr hnm
  have L36 : ∀ (n36 : Nat) (SM : zMS) (x1 : Int32) (x2 : Int32) (x3 : Int32) (x4 : Int32), f_X12_order_l36 N n36 SM x1 x2 x3 x4 = some (r0, OM) → zJ p l e rm_X12_order s m args below meth c (zQ G ct (some (.int r0)) [wM aM ct OM] A below args s 0 0) A G 7 0 0 [wM aM ct SM] [(0, .ref (aM 200)), (1, .int x1), (2, .int x2), (3, .int x3), (4, .int x4)] 36 [] := by
    intro n36
    induction n36 with
    | zero =>
      intro SM x1 x2 x3 x4 hf
      rw [f_X12_order_l36_z] at hf
      cases hf
    | succ n36 ih36 =>
      have L67 : ∀ (n67 : Nat) (SM : zMS) (x1 : Int32) (x2 : Int32) (x3 : Int32) (x4 : Int32) (x6 : Int32), f_X12_order_l67 N (f_X12_order_l36 N n36) n67 SM x1 x2 x3 x4 x6 = some (r0, OM) → zJ p l e rm_X12_order s m args below meth c (zQ G ct (some (.int r0)) [wM aM ct OM] A below args s 0 0) A G 7 0 0 [wM aM ct SM] [(0, .ref (aM 200)), (1, .int x1), (2, .int x2), (3, .int x3), (4, .int x4), (6, .int x6)] 67 [] := by
        intro n67
        induction n67 with
        | zero =>
          intro SM x1 x2 x3 x4 x6 hf
          rw [f_X12_order_l67_z] at hf
          cases hf
        | succ n67 ih67 =>
          intro SM x1 x2 x3 x4 x6 hf
          rw [f_X12_order_l67_s] at hf
          refine z_iload (pc := 67) (k0 := 5) E dX12_order_67 rfl ?_
          refine z_iconst (pc := 69) (v := 5) E dX12_order_69 (by decide) ?_
          refine z_icmp_ge (pc := 70) (tgt := 93) E dX12_order_70 (by decide) (fun c20 => ?_) (fun c20 => ?_)
          · have hf := kB_t hf c20
            obtain ⟨v21, e_v21, hf⟩ := kL_e hf
            refine z_iinc (pc := 93) (k0 := 4) (v := v21) (lv' := [(4, .int v21), (0, .ref (aM 200)), (1, .int x1), (2, .int x2), (3, .int x3), (6, .int x6)]) E dX12_order_93 rfl e_v21 (by decide) rfl ?_
            refine z_goto (pc := 96) (tgt := 36) E dX12_order_96 (by decide) ?_
            refine z_sub [1, 2, 3, 4, 0] (lv' := [(0, .ref (aM 200)), (1, .int x1), (2, .int x2), (3, .int x3), (4, .int v21)]) rfl ?_
            exact ih36 SM x1 x2 x3 v21 hf
          · have hf := kB_f hf c20
            refine z_aload_n (pc := 73) (k0 := 0) E dX12_order_73 rfl rfl ?_
            refine gM_45 (pc := 74) (i := 0) E rfl wd_5_16 dX12_order_74 ?_
            refine z_iload (pc := 77) (k0 := 5) E dX12_order_77 rfl ?_
            refine z_aload_n (pc := 79) (k0 := 0) E dX12_order_79 rfl rfl ?_
            refine gM_44 (pc := 80) (i := 0) E rfl wd_5_15 dX12_order_80 ?_
            refine z_iload (pc := 83) (k0 := 5) E dX12_order_83 rfl ?_
            obtain ⟨c22, hf⟩ := kO_e hf
            refine lM_44 (pc := 85) (i := 0) E rfl c22 dX12_order_85 ?_
            obtain ⟨c23, hf⟩ := kO_e hf
            obtain ⟨SM_24, e_SM_24, hf⟩ := kL_e hf
            refine sM_45 (pc := 86) (i := 0) (S1 := SM_24) E rfl c23 e_SM_24 dX12_order_86 ?_
            show zJ p l e rm_X12_order s m args below meth c (zQ G ct (some (.int r0)) [wM aM ct OM] A below args s 0 0) A G 7 0 0 [wM aM ct SM_24] [(0, .ref (aM 200)), (1, .int x1), (2, .int x2), (3, .int x3), (4, .int x4), (6, .int x6)] 87 []
            obtain ⟨v25, e_v25, hf⟩ := kL_e hf
            refine z_iinc (pc := 87) (k0 := 5) (v := v25) (lv' := [(6, .int v25), (0, .ref (aM 200)), (1, .int x1), (2, .int x2), (3, .int x3), (4, .int x4)]) E dX12_order_87 rfl e_v25 (by decide) rfl ?_
            refine z_goto (pc := 90) (tgt := 67) E dX12_order_90 (by decide) ?_
            refine z_sub [1, 2, 3, 4, 5, 0] (lv' := [(0, .ref (aM 200)), (1, .int x1), (2, .int x2), (3, .int x3), (4, .int x4), (6, .int v25)]) rfl ?_
            exact ih67 SM_24 x1 x2 x3 x4 v25 hf
      intro SM x1 x2 x3 x4 hf
      rw [f_X12_order_l36_s] at hf
      refine z_aload_n (pc := 36) (k0 := 0) E dX12_order_36 rfl rfl ?_
      refine z_iload (pc := 37) (k0 := 4) E dX12_order_37 rfl ?_
      obtain ⟨r8, SM_9, h10, hf⟩ := kD_e hf
      refine z_callV0 (pc := 39) (is := [0]) (n := 1) (As := [.int x4]) (st := []) (st' := [.int r8]) (C2 := [wM aM ct SM_9]) E (c_X12_layOrder (l := l) (G := G) (ct := ct) (aM := aM) h10) wv_X12_layOrder wd_37_21 ⟨Nat.le_of_ble_eq_true rfl, Nat.le_of_ble_eq_true rfl, Nat.le_of_ble_eq_true rfl, Nat.le_of_ble_eq_true rfl⟩ rfl rfl rfl (by decide) rfl rfl (zrM (j := 0) rfl) rfl (Nat.le_of_ble_eq_true rfl) dX12_order_39 rfl rfl ?_
      refine z_if_eq (pc := 42) (tgt := 99) E dX12_order_42 (by decide) (fun c11 => ?_) (fun c11 => ?_)
      · have hf := kB_t hf c11
        refine z_iload_n (pc := 99) (k0 := 2) E dX12_order_99 rfl rfl ?_
        refine z_if_ge (pc := 100) (tgt := 107) E dX12_order_100 (by decide) (fun c12 => ?_) (fun c12 => ?_)
        · have hf := kB_t hf c12
          refine z_iload_n (pc := 107) (k0 := 2) E dX12_order_107 rfl rfl ?_
          refine z_aload_n (pc := 108) (k0 := 0) E dX12_order_108 rfl rfl ?_
          refine gM_0 (pc := 109) (i := 0) E rfl wd_3_19 dX12_order_109 ?_
          refine z_icmp_ge (pc := 112) (tgt := 124) E dX12_order_112 (by decide) (fun c13 => ?_) (fun c13 => ?_)
          · have hf := kB_t hf c13
            refine z_bipush (pc := 124) (v := (-5)) E dX12_order_124 (by decide) ?_
            cases hf
            exact z_iret E hr dX12_order_126
          · have hf := kB_f hf c13
            refine z_aload_n (pc := 115) (k0 := 0) E dX12_order_115 rfl rfl ?_
            refine gM_45 (pc := 116) (i := 0) E rfl wd_5_16 dX12_order_116 ?_
            refine z_iload_n (pc := 119) (k0 := 2) E dX12_order_119 rfl rfl ?_
            obtain ⟨c14, hf⟩ := kO_e hf
            refine lM_45 (pc := 120) (i := 0) E rfl c14 dX12_order_120 ?_
            refine z_goto (pc := 121) (tgt := 126) E dX12_order_121 (by decide) ?_
            cases hf
            exact z_iret E hr dX12_order_126
        · have hf := kB_f hf c12
          refine z_iload_n (pc := 103) (k0 := 3) E dX12_order_103 rfl rfl ?_
          refine z_goto (pc := 104) (tgt := 126) E dX12_order_104 (by decide) ?_
          cases hf
          exact z_iret E hr dX12_order_126
      · have hf := kB_f hf c11
        refine z_aload_n (pc := 45) (k0 := 0) E dX12_order_45 rfl rfl ?_
        refine z_iload_n (pc := 46) (k0 := 1) E dX12_order_46 rfl rfl ?_
        obtain ⟨r15, SM_16, h17, hf⟩ := kD_e hf
        refine z_callV0 (pc := 47) (is := [0]) (n := 1) (As := [.int x1]) (st := []) (st' := [.int r15]) (C2 := [wM aM ct SM_16]) E (c_X12_spentAsOrdered (l := l) (G := G) (ct := ct) (aM := aM) h17) wv_X12_spentAsOrdered wd_38_5 ⟨Nat.le_of_ble_eq_true rfl, Nat.le_of_ble_eq_true rfl, Nat.le_of_ble_eq_true rfl, Nat.le_of_ble_eq_true rfl⟩ rfl rfl rfl (by decide) rfl rfl (zrM (j := 0) rfl) rfl (Nat.le_of_ble_eq_true rfl) dX12_order_47 rfl rfl ?_
        refine z_istore (pc := 50) (lv' := [(5, .int r15), (0, .ref (aM 200)), (1, .int x1), (2, .int x2), (3, .int x3), (4, .int x4)]) E dX12_order_50 (by decide) rfl ?_
        refine z_iload (pc := 52) (k0 := 0) E dX12_order_52 rfl ?_
        refine z_iload_n (pc := 54) (k0 := 4) E dX12_order_54 rfl rfl ?_
        refine z_icmp_gt (pc := 55) (tgt := 61) E dX12_order_55 (by decide) (fun c18 => ?_) (fun c18 => ?_)
        · have hf := kB_t hf c18
          refine z_iload (pc := 61) (k0 := 0) E dX12_order_61 rfl ?_
          refine z_istore_n (pc := 63) (lv' := [(3, .int r15), (5, .int r15), (0, .ref (aM 200)), (1, .int x1), (2, .int x2), (4, .int x4)]) E dX12_order_63 rfl (by decide) rfl ?_
          refine z_iconst (pc := 64) (v := 0) E dX12_order_64 (by decide) ?_
          refine z_istore (pc := 65) (lv' := [(6, .int 0), (3, .int r15), (5, .int r15), (0, .ref (aM 200)), (1, .int x1), (2, .int x2), (4, .int x4)]) E dX12_order_65 (by decide) rfl ?_
          refine z_sub [3, 4, 5, 1, 6, 0] (lv' := [(0, .ref (aM 200)), (1, .int x1), (2, .int x2), (3, .int r15), (4, .int x4), (6, .int 0)]) rfl ?_
          exact L67 N SM_16 x1 x2 r15 x4 0 hf
        · have hf := kB_f hf c18
          refine z_goto (pc := 58) (tgt := 93) E dX12_order_58 (by decide) ?_
          obtain ⟨v19, e_v19, hf⟩ := kL_e hf
          refine z_iinc (pc := 93) (k0 := 5) (v := v19) (lv' := [(4, .int v19), (5, .int r15), (0, .ref (aM 200)), (1, .int x1), (2, .int x2), (3, .int x3)]) E dX12_order_93 rfl e_v19 (by decide) rfl ?_
          refine z_goto (pc := 96) (tgt := 36) E dX12_order_96 (by decide) ?_
          refine z_sub [2, 3, 4, 5, 0] (lv' := [(0, .ref (aM 200)), (1, .int x1), (2, .int x2), (3, .int x3), (4, .int v19)]) rfl ?_
          exact ih36 SM_16 x1 x2 x3 v19 hf
  unfold f_X12_order at hf
  refine z_aload_n (pc := 0) (k0 := 0) E dX12_order_0 rfl rfl ?_
  refine z_iload_n (pc := 1) (k0 := 1) E dX12_order_1 rfl rfl ?_
  obtain ⟨r1, h2, hf⟩ := kC_e hf
  refine z_callV0 (pc := 2) (is := [0]) (n := 1) (As := [.int a1]) (st := []) (st' := [.int r1]) (C2 := [wM aM ct SM]) E (c_X12_isParent (l := l) (G := G) (ct := ct) (aM := aM) h2) wv_X12_isParent wd_15_13 ⟨Nat.le_of_ble_eq_true rfl, Nat.le_of_ble_eq_true rfl, Nat.le_of_ble_eq_true rfl, Nat.le_of_ble_eq_true rfl⟩ rfl rfl rfl (by decide) rfl rfl (zrM (j := 0) rfl) rfl (Nat.le_of_ble_eq_true rfl) dX12_order_2 rfl rfl ?_
  refine z_if_eq (pc := 5) (tgt := 18) E dX12_order_5 (by decide) (fun c3 => ?_) (fun c3 => ?_)
  · have hf := kB_t hf c3
    refine z_iconst (pc := 18) (v := (-1)) E dX12_order_18 (by decide) ?_
    cases hf
    exact z_iret E hr dX12_order_19
  · have hf := kB_f hf c3
    refine z_aload_n (pc := 8) (k0 := 0) E dX12_order_8 rfl rfl ?_
    refine z_iload_n (pc := 9) (k0 := 2) E dX12_order_9 rfl rfl ?_
    refine z_iconst (pc := 10) (v := (-1)) E dX12_order_10 (by decide) ?_
    refine z_iconst (pc := 11) (v := 4) E dX12_order_11 (by decide) ?_
    obtain ⟨r4, h5, hf⟩ := kC_e hf
    refine z_callV0 (pc := 12) (is := [0]) (n := 3) (As := [.int a2, .int (-1), .int 4]) (st := []) (st' := [.int r4]) (C2 := [wM aM ct SM]) E (c_X12_in (l := l) (G := G) (ct := ct) (aM := aM) h5) wv_X12_in wd_7_11 ⟨Nat.le_of_ble_eq_true rfl, Nat.le_of_ble_eq_true rfl, Nat.le_of_ble_eq_true rfl, Nat.le_of_ble_eq_true rfl⟩ rfl rfl rfl (by decide) rfl rfl (zrM (j := 0) rfl) rfl (Nat.le_of_ble_eq_true rfl) dX12_order_12 rfl rfl ?_
    refine z_if_ne (pc := 15) (tgt := 20) E dX12_order_15 (by decide) (fun c6 => ?_) (fun c6 => ?_)
    · have hf := kB_f hf c6
      refine z_aload_n (pc := 20) (k0 := 0) E dX12_order_20 rfl rfl ?_
      refine gM_0 (pc := 21) (i := 0) E rfl wd_3_19 dX12_order_21 ?_
      refine z_iconst (pc := 24) (v := 5) E dX12_order_24 (by decide) ?_
      refine z_icmp_le (pc := 25) (tgt := 31) E dX12_order_25 (by decide) (fun c7 => ?_) (fun c7 => ?_)
      · have hf := kB_t hf c7
        refine z_iconst (pc := 31) (v := (-1)) E dX12_order_31 (by decide) ?_
        refine z_istore_n (pc := 32) (lv' := [(3, .int (-1)), (0, .ref (aM 200)), (1, .int a1), (2, .int a2)]) E dX12_order_32 rfl (by decide) rfl ?_
        refine z_iconst (pc := 33) (v := 0) E dX12_order_33 (by decide) ?_
        refine z_istore (pc := 34) (lv' := [(4, .int 0), (3, .int (-1)), (0, .ref (aM 200)), (1, .int a1), (2, .int a2)]) E dX12_order_34 (by decide) rfl ?_
        refine z_sub [2, 3, 4, 1, 0] (lv' := [(0, .ref (aM 200)), (1, .int a1), (2, .int a2), (3, .int (-1)), (4, .int 0)]) rfl ?_
        exact L36 N SM a1 a2 (-1) 0 hf
      · have hf := kB_f hf c7
        refine z_bipush (pc := 28) (v := (-9)) E dX12_order_28 (by decide) ?_
        cases hf
        exact z_iret E hr dX12_order_30
    · have hf := kB_t hf c6
      refine z_iconst (pc := 18) (v := (-1)) E dX12_order_18 (by decide) ?_
      cases hf
      exact z_iret E hr dX12_order_19
noncomputable def f_X12_coupons_l15 (N : Nat) : Nat → zMS → Int32 → Int32 → Int32 → Option (Int32 × zMS) := fun n => Nat.rec (motive := fun _ => zMS → Int32 → Int32 → Int32 → Option (Int32 × zMS)) (fun _ _ _ _ => none) (fun _ ih SM x1 x2 x3 => kB (21 ≤ x3) (kL (mSI SM 33 (-1)) (fun SM_5 => some (x2, SM_5))) (kB (0 ≤ x2) (kL (mSI SM 33 (-1)) (fun SM_7 => some (x2, SM_7))) (kL (mSI SM 33 x3) (fun SM_8 => kD (f_X12_sleepsBy N SM_8 x1) (fun r9 SM_10 => kB (0 ≤ r9) (kL (x3 + 1) (fun v13 => ih SM_10 x1 x3 v13)) (kL (x3 + 1) (fun v14 => ih SM_10 x1 (-5) v14))))))) n
theorem f_X12_coupons_l15_z (N : Nat) (SM : zMS) (x1 : Int32) (x2 : Int32) (x3 : Int32) : f_X12_coupons_l15 N 0 SM x1 x2 x3 = none := rfl
theorem f_X12_coupons_l15_s (N : Nat) (n : Nat) (SM : zMS) (x1 : Int32) (x2 : Int32) (x3 : Int32) : f_X12_coupons_l15 N (n + 1) SM x1 x2 x3 = kB (21 ≤ x3) (kL (mSI SM 33 (-1)) (fun SM_5 => some (x2, SM_5))) (kB (0 ≤ x2) (kL (mSI SM 33 (-1)) (fun SM_7 => some (x2, SM_7))) (kL (mSI SM 33 x3) (fun SM_8 => kD (f_X12_sleepsBy N SM_8 x1) (fun r9 SM_10 => kB (0 ≤ r9) (kL (x3 + 1) (fun v13 => (f_X12_coupons_l15 N n) SM_10 x1 x3 v13)) (kL (x3 + 1) (fun v14 => (f_X12_coupons_l15 N n) SM_10 x1 (-5) v14)))))) := rfl
noncomputable def f_X12_coupons (N : Nat) (SM : zMS) (a1 : Int32) : Option (Int32 × zMS) := kC (f_X12_isParent SM a1) (fun r1 => kB (r1 = 0) (some ((-1), SM)) (f_X12_coupons_l15 N N SM a1 (-5) 0))
theorem wv_X12_coupons : zWV RX12 yX12_coupons cX12_coupons 4 (some .int) 1 := ⟨wd_38_15, wd_38_16, wd_1_5, wd_38_17, by decide +kernel⟩
def rm_X12_coupons : Room := { frames := 9, cells := 0, slots := 0, locals := 199 }
set_option maxHeartbeats 4000000 in
set_option maxRecDepth 100000 in
theorem c_X12_coupons {l : Launch} {G : va_G} {ct : Nat → ClassId} {aM : Nat → Nat} {N : Nat} {SM : zMS} {a1 : Int32} {r0 : Int32} {OM : zMS} (hf : f_X12_coupons N SM a1 = some (r0, OM)) : zC l yX12_coupons cX12_coupons 4 (some .int) rm_X12_coupons G ct [.ref (aM 200), .int a1] [wM aM ct SM] [wM aM ct OM] (some (.int r0)) 0 0 := by
  refine z_enter (own := RX12) (lv := [(0, .ref (aM 200)), (1, .int a1)]) (by decide) rfl (Nat.le_of_ble_eq_true rfl) rfl ?_
  intro p e s m args below meth c A E hr hnm
  have L15 : ∀ (n15 : Nat) (SM : zMS) (x1 : Int32) (x2 : Int32) (x3 : Int32), f_X12_coupons_l15 N n15 SM x1 x2 x3 = some (r0, OM) → zJ p l e rm_X12_coupons s m args below meth c (zQ G ct (some (.int r0)) [wM aM ct OM] A below args s 0 0) A G 4 0 0 [wM aM ct SM] [(0, .ref (aM 200)), (1, .int x1), (2, .int x2), (3, .int x3)] 15 [] := by
    intro n15
    induction n15 with
    | zero =>
      intro SM x1 x2 x3 hf
      rw [f_X12_coupons_l15_z] at hf
      cases hf
    | succ n15 ih15 =>
      intro SM x1 x2 x3 hf
      rw [f_X12_coupons_l15_s] at hf
      refine z_iload_n (pc := 15) (k0 := 3) E dX12_coupons_15 rfl rfl ?_
      refine z_bipush (pc := 16) (v := 21) E dX12_coupons_16 (by decide) ?_
      refine z_icmp_ge (pc := 18) (tgt := 51) E dX12_coupons_18 (by decide) (fun c4 => ?_) (fun c4 => ?_)
      · have hf := kB_t hf c4
        refine z_aload_n (pc := 51) (k0 := 0) E dX12_coupons_51 rfl rfl ?_
        refine z_iconst (pc := 52) (v := (-1)) E dX12_coupons_52 (by decide) ?_
        obtain ⟨SM_5, e_SM_5, hf⟩ := kL_e hf
        refine pM_33 (pc := 53) (i := 0) (S1 := SM_5) E rfl e_SM_5 wd_5_4 dX12_coupons_53 ?_
        show zJ p l e rm_X12_coupons s m args below meth c (zQ G ct (some (.int r0)) [wM aM ct OM] A below args s 0 0) A G 4 0 0 [wM aM ct SM_5] [(0, .ref (aM 200)), (1, .int x1), (2, .int x2), (3, .int x3)] 56 []
        refine z_iload_n (pc := 56) (k0 := 2) E dX12_coupons_56 rfl rfl ?_
        cases hf
        exact z_iret E hr dX12_coupons_57
      · have hf := kB_f hf c4
        refine z_iload_n (pc := 21) (k0 := 2) E dX12_coupons_21 rfl rfl ?_
        refine z_if_ge (pc := 22) (tgt := 51) E dX12_coupons_22 (by decide) (fun c6 => ?_) (fun c6 => ?_)
        · have hf := kB_t hf c6
          refine z_aload_n (pc := 51) (k0 := 0) E dX12_coupons_51 rfl rfl ?_
          refine z_iconst (pc := 52) (v := (-1)) E dX12_coupons_52 (by decide) ?_
          obtain ⟨SM_7, e_SM_7, hf⟩ := kL_e hf
          refine pM_33 (pc := 53) (i := 0) (S1 := SM_7) E rfl e_SM_7 wd_5_4 dX12_coupons_53 ?_
          show zJ p l e rm_X12_coupons s m args below meth c (zQ G ct (some (.int r0)) [wM aM ct OM] A below args s 0 0) A G 4 0 0 [wM aM ct SM_7] [(0, .ref (aM 200)), (1, .int x1), (2, .int x2), (3, .int x3)] 56 []
          refine z_iload_n (pc := 56) (k0 := 2) E dX12_coupons_56 rfl rfl ?_
          cases hf
          exact z_iret E hr dX12_coupons_57
        · have hf := kB_f hf c6
          refine z_aload_n (pc := 25) (k0 := 0) E dX12_coupons_25 rfl rfl ?_
          refine z_iload_n (pc := 26) (k0 := 3) E dX12_coupons_26 rfl rfl ?_
          obtain ⟨SM_8, e_SM_8, hf⟩ := kL_e hf
          refine pM_33 (pc := 27) (i := 0) (S1 := SM_8) E rfl e_SM_8 wd_5_4 dX12_coupons_27 ?_
          show zJ p l e rm_X12_coupons s m args below meth c (zQ G ct (some (.int r0)) [wM aM ct OM] A below args s 0 0) A G 4 0 0 [wM aM ct SM_8] [(0, .ref (aM 200)), (1, .int x1), (2, .int x2), (3, .int x3)] 30 []
          refine z_aload_n (pc := 30) (k0 := 0) E dX12_coupons_30 rfl rfl ?_
          refine z_iload_n (pc := 31) (k0 := 1) E dX12_coupons_31 rfl rfl ?_
          obtain ⟨r9, SM_10, h11, hf⟩ := kD_e hf
          refine z_callV0 (pc := 32) (is := [0]) (n := 1) (As := [.int x1]) (st := []) (st' := [.int r9]) (C2 := [wM aM ct SM_10]) E (c_X12_sleepsBy (l := l) (G := G) (ct := ct) (aM := aM) h11) wv_X12_sleepsBy wd_35_10 ⟨Nat.le_of_ble_eq_true rfl, Nat.le_of_ble_eq_true rfl, Nat.le_of_ble_eq_true rfl, Nat.le_of_ble_eq_true rfl⟩ rfl rfl rfl (by decide) rfl rfl (zrM (j := 0) rfl) rfl (Nat.le_of_ble_eq_true rfl) dX12_coupons_32 rfl rfl ?_
          refine z_if_ge (pc := 35) (tgt := 43) E dX12_coupons_35 (by decide) (fun c12 => ?_) (fun c12 => ?_)
          · have hf := kB_t hf c12
            refine z_iload_n (pc := 43) (k0 := 3) E dX12_coupons_43 rfl rfl ?_
            refine z_istore_n (pc := 44) (lv' := [(2, .int x3), (0, .ref (aM 200)), (1, .int x1), (3, .int x3)]) E dX12_coupons_44 rfl (by decide) rfl ?_
            obtain ⟨v13, e_v13, hf⟩ := kL_e hf
            refine z_iinc (pc := 45) (k0 := 3) (v := v13) (lv' := [(3, .int v13), (2, .int x3), (0, .ref (aM 200)), (1, .int x1)]) E dX12_coupons_45 rfl e_v13 (by decide) rfl ?_
            refine z_goto (pc := 48) (tgt := 15) E dX12_coupons_48 (by decide) ?_
            refine z_sub [2, 3, 1, 0] (lv' := [(0, .ref (aM 200)), (1, .int x1), (2, .int x3), (3, .int v13)]) rfl ?_
            exact ih15 SM_10 x1 x3 v13 hf
          · have hf := kB_f hf c12
            refine z_bipush (pc := 38) (v := (-5)) E dX12_coupons_38 (by decide) ?_
            refine z_goto (pc := 40) (tgt := 44) E dX12_coupons_40 (by decide) ?_
            refine z_istore_n (pc := 44) (lv' := [(2, .int (-5)), (0, .ref (aM 200)), (1, .int x1), (3, .int x3)]) E dX12_coupons_44 rfl (by decide) rfl ?_
            obtain ⟨v14, e_v14, hf⟩ := kL_e hf
            refine z_iinc (pc := 45) (k0 := 3) (v := v14) (lv' := [(3, .int v14), (2, .int (-5)), (0, .ref (aM 200)), (1, .int x1)]) E dX12_coupons_45 rfl e_v14 (by decide) rfl ?_
            refine z_goto (pc := 48) (tgt := 15) E dX12_coupons_48 (by decide) ?_
            refine z_sub [2, 3, 1, 0] (lv' := [(0, .ref (aM 200)), (1, .int x1), (2, .int (-5)), (3, .int v14)]) rfl ?_
            exact ih15 SM_10 x1 (-5) v14 hf
  unfold f_X12_coupons at hf
  refine z_aload_n (pc := 0) (k0 := 0) E dX12_coupons_0 rfl rfl ?_
  refine z_iload_n (pc := 1) (k0 := 1) E dX12_coupons_1 rfl rfl ?_
  obtain ⟨r1, h2, hf⟩ := kC_e hf
  refine z_callV0 (pc := 2) (is := [0]) (n := 1) (As := [.int a1]) (st := []) (st' := [.int r1]) (C2 := [wM aM ct SM]) E (c_X12_isParent (l := l) (G := G) (ct := ct) (aM := aM) h2) wv_X12_isParent wd_15_13 ⟨Nat.le_of_ble_eq_true rfl, Nat.le_of_ble_eq_true rfl, Nat.le_of_ble_eq_true rfl, Nat.le_of_ble_eq_true rfl⟩ rfl rfl rfl (by decide) rfl rfl (zrM (j := 0) rfl) rfl (Nat.le_of_ble_eq_true rfl) dX12_coupons_2 rfl rfl ?_
  refine z_if_ne (pc := 5) (tgt := 10) E dX12_coupons_5 (by decide) (fun c3 => ?_) (fun c3 => ?_)
  · have hf := kB_f hf c3
    refine z_bipush (pc := 10) (v := (-5)) E dX12_coupons_10 (by decide) ?_
    refine z_istore_n (pc := 12) (lv' := [(2, .int (-5)), (0, .ref (aM 200)), (1, .int a1)]) E dX12_coupons_12 rfl (by decide) rfl ?_
    refine z_iconst (pc := 13) (v := 0) E dX12_coupons_13 (by decide) ?_
    refine z_istore_n (pc := 14) (lv' := [(3, .int 0), (2, .int (-5)), (0, .ref (aM 200)), (1, .int a1)]) E dX12_coupons_14 rfl (by decide) rfl ?_
    refine z_sub [2, 3, 1, 0] (lv' := [(0, .ref (aM 200)), (1, .int a1), (2, .int (-5)), (3, .int 0)]) rfl ?_
    exact L15 N SM a1 (-5) 0 hf
  · have hf := kB_t hf c3
    refine z_iconst (pc := 8) (v := (-1)) E dX12_coupons_8 (by decide) ?_
    cases hf
    exact z_iret E hr dX12_coupons_9
noncomputable def f_X12_evenings_l102 (N : Nat) : Nat → zMS → Int32 → Int32 → Int32 → Int32 → Int32 → Option (Int32 × zMS) := fun n => Nat.rec (motive := fun _ => zMS → Int32 → Int32 → Int32 → Int32 → Int32 → Option (Int32 × zMS)) (fun _ _ _ _ _ _ => none) (fun _ ih SM x3 x4 x5 x6 x7 => kB ((SM.1 0) ≤ x7) (kC (f_X12_putBack N SM) (fun SM_20 => kB (x3 = 0) (some (x5, SM_20)) (kB (x3 = 1) (some (x4, SM_20)) (some (x6, SM_20))))) (kO (¬ (x7 < 0 ∨ 7 ≤ Int32.toNatClampNeg x7)) (kL (x6 + (SM.2.1 10 (Int32.toNatClampNeg x7))) (fun v25 => kL (x7 + 1) (fun v26 => ih SM x3 x4 x5 v25 v26))))) n
theorem f_X12_evenings_l102_z (N : Nat) (SM : zMS) (x3 : Int32) (x4 : Int32) (x5 : Int32) (x6 : Int32) (x7 : Int32) : f_X12_evenings_l102 N 0 SM x3 x4 x5 x6 x7 = none := rfl
theorem f_X12_evenings_l102_s (N : Nat) (n : Nat) (SM : zMS) (x3 : Int32) (x4 : Int32) (x5 : Int32) (x6 : Int32) (x7 : Int32) : f_X12_evenings_l102 N (n + 1) SM x3 x4 x5 x6 x7 = kB ((SM.1 0) ≤ x7) (kC (f_X12_putBack N SM) (fun SM_20 => kB (x3 = 0) (some (x5, SM_20)) (kB (x3 = 1) (some (x4, SM_20)) (some (x6, SM_20))))) (kO (¬ (x7 < 0 ∨ 7 ≤ Int32.toNatClampNeg x7)) (kL (x6 + (SM.2.1 10 (Int32.toNatClampNeg x7))) (fun v25 => kL (x7 + 1) (fun v26 => (f_X12_evenings_l102 N n) SM x3 x4 x5 v25 v26)))) := rfl
noncomputable def f_X12_evenings_b77 (N : Nat) (k47 : zMS → Int32 → Int32 → Int32 → Int32 → Int32 → Int32 → Option (Int32 × zMS)) (SM : zMS) (x1 : Int32) (x2 : Int32) (x3 : Int32) (x6 : Int32) (y0 : Int32) (y1 : Int32) : Option (Int32 × zMS) := kL (y1 + y0) (fun v27 => kC (f_X12_goNight SM) (fun SM_28 => kL (x6 + 1) (fun v30 => k47 SM_28 x1 x2 x3 v27 (SM.1 3) v30)))
noncomputable def f_X12_evenings_l47 (N : Nat) : Nat → zMS → Int32 → Int32 → Int32 → Int32 → Int32 → Int32 → Option (Int32 × zMS) := fun n => Nat.rec (motive := fun _ => zMS → Int32 → Int32 → Int32 → Int32 → Int32 → Int32 → Option (Int32 × zMS)) (fun _ _ _ _ _ _ _ => none) (fun _ ih SM x1 x2 x3 x4 x5 x6 => kB (x2 ≤ x6) (f_X12_evenings_l102 N N SM x3 x4 x5 0 0) (kD (f_X12_goAsks N SM x1 60) (fun r13 SM_14 => kC (f_X12_how N SM_14) (fun r16 => kB (r16 = 2) (f_X12_evenings_b77 N ih SM_14 x1 x2 x3 x6 1 x4) (f_X12_evenings_b77 N ih SM_14 x1 x2 x3 x6 0 x4))))) n
theorem f_X12_evenings_l47_z (N : Nat) (SM : zMS) (x1 : Int32) (x2 : Int32) (x3 : Int32) (x4 : Int32) (x5 : Int32) (x6 : Int32) : f_X12_evenings_l47 N 0 SM x1 x2 x3 x4 x5 x6 = none := rfl
theorem f_X12_evenings_l47_s (N : Nat) (n : Nat) (SM : zMS) (x1 : Int32) (x2 : Int32) (x3 : Int32) (x4 : Int32) (x5 : Int32) (x6 : Int32) : f_X12_evenings_l47 N (n + 1) SM x1 x2 x3 x4 x5 x6 = kB (x2 ≤ x6) (f_X12_evenings_l102 N N SM x3 x4 x5 0 0) (kD (f_X12_goAsks N SM x1 60) (fun r13 SM_14 => kC (f_X12_how N SM_14) (fun r16 => kB (r16 = 2) (f_X12_evenings_b77 N (f_X12_evenings_l47 N n) SM_14 x1 x2 x3 x6 1 x4) (f_X12_evenings_b77 N (f_X12_evenings_l47 N n) SM_14 x1 x2 x3 x6 0 x4)))) := rfl
noncomputable def f_X12_evenings (N : Nat) (SM : zMS) (a1 : Int32) (a2 : Int32) (a3 : Int32) : Option (Int32 × zMS) := kC (f_X12_isParent SM a1) (fun r1 => kB (r1 = 0) (some ((-1), SM)) (kC (f_X12_in SM a3 0 2) (fun r4 => kB (r4 = 0) (some ((-1), SM)) (kC (f_X12_in SM a2 1 10) (fun r7 => kB (r7 = 0) (some ((-2), SM)) (kC (f_X12_save N SM) (fun SM_10 => f_X12_evenings_l47 N N SM_10 a1 a2 a3 0 0 0)))))))
theorem wv_X12_evenings : zWV RX12 yX12_evenings cX12_evenings 8 (some .int) 3 := ⟨wd_39_4, wd_39_5, wd_1_5, wd_39_6, by decide +kernel⟩
def rm_X12_evenings : Room := { frames := 8, cells := 0, slots := 0, locals := 176 }
set_option maxHeartbeats 4000000 in
set_option maxRecDepth 100000 in
theorem c_X12_evenings {l : Launch} {G : va_G} {ct : Nat → ClassId} {aM : Nat → Nat} {N : Nat} {SM : zMS} {a1 : Int32} {a2 : Int32} {a3 : Int32} {r0 : Int32} {OM : zMS} (hf : f_X12_evenings N SM a1 a2 a3 = some (r0, OM)) : zC l yX12_evenings cX12_evenings 8 (some .int) rm_X12_evenings G ct [.ref (aM 200), .int a1, .int a2, .int a3] [wM aM ct SM] [wM aM ct OM] (some (.int r0)) 0 0 := by
  refine z_enter (own := RX12) (lv := [(0, .ref (aM 200)), (1, .int a1), (2, .int a2), (3, .int a3)]) (by decide) rfl (Nat.le_of_ble_eq_true rfl) rfl ?_
  intro p e s m args below meth c A E hr hnm
  have L102 : ∀ (n102 : Nat) (SM : zMS) (x3 : Int32) (x4 : Int32) (x5 : Int32) (x6 : Int32) (x7 : Int32), f_X12_evenings_l102 N n102 SM x3 x4 x5 x6 x7 = some (r0, OM) → zJ p l e rm_X12_evenings s m args below meth c (zQ G ct (some (.int r0)) [wM aM ct OM] A below args s 0 0) A G 8 0 0 [wM aM ct SM] [(0, .ref (aM 200)), (3, .int x3), (4, .int x4), (5, .int x5), (6, .int x6), (7, .int x7)] 102 [] := by
    intro n102
    induction n102 with
    | zero =>
      intro SM x3 x4 x5 x6 x7 hf
      rw [f_X12_evenings_l102_z] at hf
      cases hf
    | succ n102 ih102 =>
      intro SM x3 x4 x5 x6 x7 hf
      rw [f_X12_evenings_l102_s] at hf
      refine z_iload (pc := 102) (k0 := 5) E dX12_evenings_102 rfl ?_
      refine z_aload_n (pc := 104) (k0 := 0) E dX12_evenings_104 rfl rfl ?_
      refine gM_0 (pc := 105) (i := 0) E rfl wd_3_19 dX12_evenings_105 ?_
      refine z_icmp_ge (pc := 108) (tgt := 129) E dX12_evenings_108 (by decide) (fun c19 => ?_) (fun c19 => ?_)
      · have hf := kB_t hf c19
        refine z_aload_n (pc := 129) (k0 := 0) E dX12_evenings_129 rfl rfl ?_
        obtain ⟨SM_20, h21, hf⟩ := kC_e hf
        refine z_callV0 (pc := 130) (is := [0]) (n := 0) (As := []) (st := []) (st' := []) (C2 := [wM aM ct SM_20]) E (c_X12_putBack (l := l) (G := G) (ct := ct) (aM := aM) h21) wv_X12_putBack wd_34_13 ⟨Nat.le_of_ble_eq_true rfl, Nat.le_of_ble_eq_true rfl, Nat.le_of_ble_eq_true rfl, Nat.le_of_ble_eq_true rfl⟩ rfl rfl rfl (by decide) rfl rfl (zrM (j := 0) rfl) rfl (Nat.le_of_ble_eq_true rfl) dX12_evenings_130 rfl rfl ?_
        refine z_iload_n (pc := 133) (k0 := 1) E dX12_evenings_133 rfl rfl ?_
        refine z_if_ne (pc := 134) (tgt := 142) E dX12_evenings_134 (by decide) (fun c22 => ?_) (fun c22 => ?_)
        · have hf := kB_f hf c22
          refine z_iload_n (pc := 142) (k0 := 1) E dX12_evenings_142 rfl rfl ?_
          refine z_iconst (pc := 143) (v := 1) E dX12_evenings_143 (by decide) ?_
          refine z_icmp_ne (pc := 144) (tgt := 152) E dX12_evenings_144 (by decide) (fun c23 => ?_) (fun c23 => ?_)
          · have hf := kB_f hf c23
            refine z_iload (pc := 152) (k0 := 4) E dX12_evenings_152 rfl ?_
            cases hf
            exact z_iret E hr dX12_evenings_154
          · have hf := kB_t hf c23
            refine z_iload (pc := 147) (k0 := 2) E dX12_evenings_147 rfl ?_
            refine z_goto (pc := 149) (tgt := 154) E dX12_evenings_149 (by decide) ?_
            cases hf
            exact z_iret E hr dX12_evenings_154
        · have hf := kB_t hf c22
          refine z_iload (pc := 137) (k0 := 3) E dX12_evenings_137 rfl ?_
          refine z_goto (pc := 139) (tgt := 154) E dX12_evenings_139 (by decide) ?_
          cases hf
          exact z_iret E hr dX12_evenings_154
      · have hf := kB_f hf c19
        refine z_iload (pc := 111) (k0 := 4) E dX12_evenings_111 rfl ?_
        refine z_aload_n (pc := 113) (k0 := 0) E dX12_evenings_113 rfl rfl ?_
        refine gM_10 (pc := 114) (i := 0) E rfl wd_4_5 dX12_evenings_114 ?_
        refine z_iload (pc := 117) (k0 := 5) E dX12_evenings_117 rfl ?_
        obtain ⟨c24, hf⟩ := kO_e hf
        refine lM_10 (pc := 119) (i := 0) E rfl c24 dX12_evenings_119 ?_
        obtain ⟨v25, e_v25, hf⟩ := kL_e hf
        refine z_iadd (pc := 120) (v := v25) E dX12_evenings_120 e_v25 ?_
        refine z_istore (pc := 121) (lv' := [(6, .int v25), (0, .ref (aM 200)), (3, .int x3), (4, .int x4), (5, .int x5), (7, .int x7)]) E dX12_evenings_121 (by decide) rfl ?_
        obtain ⟨v26, e_v26, hf⟩ := kL_e hf
        refine z_iinc (pc := 123) (k0 := 5) (v := v26) (lv' := [(7, .int v26), (6, .int v25), (0, .ref (aM 200)), (3, .int x3), (4, .int x4), (5, .int x5)]) E dX12_evenings_123 rfl e_v26 (by decide) rfl ?_
        refine z_goto (pc := 126) (tgt := 102) E dX12_evenings_126 (by decide) ?_
        refine z_sub [2, 3, 4, 5, 1, 0] (lv' := [(0, .ref (aM 200)), (3, .int x3), (4, .int x4), (5, .int x5), (6, .int v25), (7, .int v26)]) rfl ?_
        exact ih102 SM x3 x4 x5 v25 v26 hf
  have L47 : ∀ (n47 : Nat) (SM : zMS) (x1 : Int32) (x2 : Int32) (x3 : Int32) (x4 : Int32) (x5 : Int32) (x6 : Int32), f_X12_evenings_l47 N n47 SM x1 x2 x3 x4 x5 x6 = some (r0, OM) → zJ p l e rm_X12_evenings s m args below meth c (zQ G ct (some (.int r0)) [wM aM ct OM] A below args s 0 0) A G 8 0 0 [wM aM ct SM] [(0, .ref (aM 200)), (1, .int x1), (2, .int x2), (3, .int x3), (4, .int x4), (5, .int x5), (6, .int x6)] 47 [] := by
    intro n47
    induction n47 with
    | zero =>
      intro SM x1 x2 x3 x4 x5 x6 hf
      rw [f_X12_evenings_l47_z] at hf
      cases hf
    | succ n47 ih47 =>
      have B77 : ∀ (SM : zMS) (x1 : Int32) (x2 : Int32) (x3 : Int32) (x6 : Int32) (y0 : Int32) (y1 : Int32), f_X12_evenings_b77 N (f_X12_evenings_l47 N n47) SM x1 x2 x3 x6 y0 y1 = some (r0, OM) → zJ p l e rm_X12_evenings s m args below meth c (zQ G ct (some (.int r0)) [wM aM ct OM] A below args s 0 0) A G 8 0 0 [wM aM ct SM] [(0, .ref (aM 200)), (1, .int x1), (2, .int x2), (3, .int x3), (6, .int x6)] 77 [.int y0, .int y1] := by
        intro SM x1 x2 x3 x6 y0 y1 hf
        unfold f_X12_evenings_b77 at hf
        obtain ⟨v27, e_v27, hf⟩ := kL_e hf
        refine z_iadd (pc := 77) (v := v27) E dX12_evenings_77 e_v27 ?_
        refine z_istore (pc := 78) (lv' := [(4, .int v27), (0, .ref (aM 200)), (1, .int x1), (2, .int x2), (3, .int x3), (6, .int x6)]) E dX12_evenings_78 (by decide) rfl ?_
        refine z_aload_n (pc := 80) (k0 := 1) E dX12_evenings_80 rfl rfl ?_
        refine gM_3 (pc := 81) (i := 0) E rfl wd_3_22 dX12_evenings_81 ?_
        refine z_istore (pc := 84) (lv' := [(5, .int (SM.1 3)), (4, .int v27), (0, .ref (aM 200)), (1, .int x1), (2, .int x2), (3, .int x3), (6, .int x6)]) E dX12_evenings_84 (by decide) rfl ?_
        refine z_aload_n (pc := 86) (k0 := 2) E dX12_evenings_86 rfl rfl ?_
        obtain ⟨SM_28, h29, hf⟩ := kC_e hf
        refine z_callV0 (pc := 87) (is := [0]) (n := 0) (As := []) (st := []) (st' := []) (C2 := [wM aM ct SM_28]) E (c_X12_goNight (l := l) (G := G) (ct := ct) (aM := aM) h29) wv_X12_goNight wd_31_18 ⟨Nat.le_of_ble_eq_true rfl, Nat.le_of_ble_eq_true rfl, Nat.le_of_ble_eq_true rfl, Nat.le_of_ble_eq_true rfl⟩ rfl rfl rfl (by decide) rfl rfl (zrM (j := 0) rfl) rfl (Nat.le_of_ble_eq_true rfl) dX12_evenings_87 rfl rfl ?_
        obtain ⟨v30, e_v30, hf⟩ := kL_e hf
        refine z_iinc (pc := 90) (k0 := 6) (v := v30) (lv' := [(6, .int v30), (5, .int (SM.1 3)), (4, .int v27), (0, .ref (aM 200)), (1, .int x1), (2, .int x2), (3, .int x3)]) E dX12_evenings_90 rfl e_v30 (by decide) rfl ?_
        refine z_goto (pc := 93) (tgt := 47) E dX12_evenings_93 (by decide) ?_
        refine z_sub [3, 4, 5, 6, 2, 1, 0] (lv' := [(0, .ref (aM 200)), (1, .int x1), (2, .int x2), (3, .int x3), (4, .int v27), (5, .int (SM.1 3)), (6, .int v30)]) rfl ?_
        exact ih47 SM_28 x1 x2 x3 v27 (SM.1 3) v30 hf
      intro SM x1 x2 x3 x4 x5 x6 hf
      rw [f_X12_evenings_l47_s] at hf
      refine z_iload (pc := 47) (k0 := 6) E dX12_evenings_47 rfl ?_
      refine z_iload_n (pc := 49) (k0 := 2) E dX12_evenings_49 rfl rfl ?_
      refine z_icmp_ge (pc := 50) (tgt := 96) E dX12_evenings_50 (by decide) (fun c12 => ?_) (fun c12 => ?_)
      · have hf := kB_t hf c12
        refine z_iconst (pc := 96) (v := 0) E dX12_evenings_96 (by decide) ?_
        refine z_istore (pc := 97) (lv' := [(6, .int 0), (0, .ref (aM 200)), (1, .int x1), (2, .int x2), (3, .int x3), (4, .int x4), (5, .int x5)]) E dX12_evenings_97 (by decide) rfl ?_
        refine z_iconst (pc := 99) (v := 0) E dX12_evenings_99 (by decide) ?_
        refine z_istore (pc := 100) (lv' := [(7, .int 0), (6, .int 0), (0, .ref (aM 200)), (1, .int x1), (2, .int x2), (3, .int x3), (4, .int x4), (5, .int x5)]) E dX12_evenings_100 (by decide) rfl ?_
        refine z_sub [2, 5, 6, 7, 1, 0] (lv' := [(0, .ref (aM 200)), (3, .int x3), (4, .int x4), (5, .int x5), (6, .int 0), (7, .int 0)]) rfl ?_
        exact L102 N SM x3 x4 x5 0 0 hf
      · have hf := kB_f hf c12
        refine z_aload_n (pc := 53) (k0 := 0) E dX12_evenings_53 rfl rfl ?_
        refine z_iload_n (pc := 54) (k0 := 1) E dX12_evenings_54 rfl rfl ?_
        refine z_bipush (pc := 55) (v := 60) E dX12_evenings_55 (by decide) ?_
        obtain ⟨r13, SM_14, h15, hf⟩ := kD_e hf
        refine z_callV0 (pc := 57) (is := [0]) (n := 2) (As := [.int x1, .int 60]) (st := []) (st' := [.int r13]) (C2 := [wM aM ct SM_14]) E (c_X12_goAsks (l := l) (G := G) (ct := ct) (aM := aM) h15) wv_X12_goAsks wd_34_9 ⟨Nat.le_of_ble_eq_true rfl, Nat.le_of_ble_eq_true rfl, Nat.le_of_ble_eq_true rfl, Nat.le_of_ble_eq_true rfl⟩ rfl rfl rfl (by decide) rfl rfl (zrM (j := 0) rfl) rfl (Nat.le_of_ble_eq_true rfl) dX12_evenings_57 rfl rfl ?_
        refine z_istore (pc := 60) (lv' := [(7, .int r13), (0, .ref (aM 200)), (1, .int x1), (2, .int x2), (3, .int x3), (4, .int x4), (5, .int x5), (6, .int x6)]) E dX12_evenings_60 (by decide) rfl ?_
        refine z_iload (pc := 62) (k0 := 5) E dX12_evenings_62 rfl ?_
        refine z_aload_n (pc := 64) (k0 := 1) E dX12_evenings_64 rfl rfl ?_
        obtain ⟨r16, h17, hf⟩ := kC_e hf
        refine z_callV0 (pc := 65) (is := [0]) (n := 0) (As := []) (st := [.int x4]) (st' := [.int r16, .int x4]) (C2 := [wM aM ct SM_14]) E (c_X12_how (l := l) (G := G) (ct := ct) (aM := aM) h17) wv_X12_how wd_29_15 ⟨Nat.le_of_ble_eq_true rfl, Nat.le_of_ble_eq_true rfl, Nat.le_of_ble_eq_true rfl, Nat.le_of_ble_eq_true rfl⟩ rfl rfl rfl (by decide) rfl rfl (zrM (j := 0) rfl) rfl (Nat.le_of_ble_eq_true rfl) dX12_evenings_65 rfl rfl ?_
        refine z_iconst (pc := 68) (v := 2) E dX12_evenings_68 (by decide) ?_
        refine z_icmp_ne (pc := 69) (tgt := 76) E dX12_evenings_69 (by decide) (fun c18 => ?_) (fun c18 => ?_)
        · have hf := kB_f hf c18
          refine z_iconst (pc := 76) (v := 0) E dX12_evenings_76 (by decide) ?_
          refine z_sub [1, 2, 3, 4, 7] (lv' := [(0, .ref (aM 200)), (1, .int x1), (2, .int x2), (3, .int x3), (6, .int x6)]) rfl ?_
          exact B77 SM_14 x1 x2 x3 x6 0 x4 hf
        · have hf := kB_t hf c18
          refine z_iconst (pc := 72) (v := 1) E dX12_evenings_72 (by decide) ?_
          refine z_goto (pc := 73) (tgt := 77) E dX12_evenings_73 (by decide) ?_
          refine z_sub [1, 2, 3, 4, 7] (lv' := [(0, .ref (aM 200)), (1, .int x1), (2, .int x2), (3, .int x3), (6, .int x6)]) rfl ?_
          exact B77 SM_14 x1 x2 x3 x6 1 x4 hf
  unfold f_X12_evenings at hf
  refine z_aload_n (pc := 0) (k0 := 0) E dX12_evenings_0 rfl rfl ?_
  refine z_iload_n (pc := 1) (k0 := 1) E dX12_evenings_1 rfl rfl ?_
  obtain ⟨r1, h2, hf⟩ := kC_e hf
  refine z_callV0 (pc := 2) (is := [0]) (n := 1) (As := [.int a1]) (st := []) (st' := [.int r1]) (C2 := [wM aM ct SM]) E (c_X12_isParent (l := l) (G := G) (ct := ct) (aM := aM) h2) wv_X12_isParent wd_15_13 ⟨Nat.le_of_ble_eq_true rfl, Nat.le_of_ble_eq_true rfl, Nat.le_of_ble_eq_true rfl, Nat.le_of_ble_eq_true rfl⟩ rfl rfl rfl (by decide) rfl rfl (zrM (j := 0) rfl) rfl (Nat.le_of_ble_eq_true rfl) dX12_evenings_2 rfl rfl ?_
  refine z_if_eq (pc := 5) (tgt := 18) E dX12_evenings_5 (by decide) (fun c3 => ?_) (fun c3 => ?_)
  · have hf := kB_t hf c3
    refine z_iconst (pc := 18) (v := (-1)) E dX12_evenings_18 (by decide) ?_
    cases hf
    exact z_iret E hr dX12_evenings_19
  · have hf := kB_f hf c3
    refine z_aload_n (pc := 8) (k0 := 0) E dX12_evenings_8 rfl rfl ?_
    refine z_iload_n (pc := 9) (k0 := 3) E dX12_evenings_9 rfl rfl ?_
    refine z_iconst (pc := 10) (v := 0) E dX12_evenings_10 (by decide) ?_
    refine z_iconst (pc := 11) (v := 2) E dX12_evenings_11 (by decide) ?_
    obtain ⟨r4, h5, hf⟩ := kC_e hf
    refine z_callV0 (pc := 12) (is := [0]) (n := 3) (As := [.int a3, .int 0, .int 2]) (st := []) (st' := [.int r4]) (C2 := [wM aM ct SM]) E (c_X12_in (l := l) (G := G) (ct := ct) (aM := aM) h5) wv_X12_in wd_7_11 ⟨Nat.le_of_ble_eq_true rfl, Nat.le_of_ble_eq_true rfl, Nat.le_of_ble_eq_true rfl, Nat.le_of_ble_eq_true rfl⟩ rfl rfl rfl (by decide) rfl rfl (zrM (j := 0) rfl) rfl (Nat.le_of_ble_eq_true rfl) dX12_evenings_12 rfl rfl ?_
    refine z_if_ne (pc := 15) (tgt := 20) E dX12_evenings_15 (by decide) (fun c6 => ?_) (fun c6 => ?_)
    · have hf := kB_f hf c6
      refine z_aload_n (pc := 20) (k0 := 0) E dX12_evenings_20 rfl rfl ?_
      refine z_iload_n (pc := 21) (k0 := 2) E dX12_evenings_21 rfl rfl ?_
      refine z_iconst (pc := 22) (v := 1) E dX12_evenings_22 (by decide) ?_
      refine z_bipush (pc := 23) (v := 10) E dX12_evenings_23 (by decide) ?_
      obtain ⟨r7, h8, hf⟩ := kC_e hf
      refine z_callV0 (pc := 25) (is := [0]) (n := 3) (As := [.int a2, .int 1, .int 10]) (st := []) (st' := [.int r7]) (C2 := [wM aM ct SM]) E (c_X12_in (l := l) (G := G) (ct := ct) (aM := aM) h8) wv_X12_in wd_7_11 ⟨Nat.le_of_ble_eq_true rfl, Nat.le_of_ble_eq_true rfl, Nat.le_of_ble_eq_true rfl, Nat.le_of_ble_eq_true rfl⟩ rfl rfl rfl (by decide) rfl rfl (zrM (j := 0) rfl) rfl (Nat.le_of_ble_eq_true rfl) dX12_evenings_25 rfl rfl ?_
      refine z_if_ne (pc := 28) (tgt := 34) E dX12_evenings_28 (by decide) (fun c9 => ?_) (fun c9 => ?_)
      · have hf := kB_f hf c9
        refine z_aload_n (pc := 34) (k0 := 0) E dX12_evenings_34 rfl rfl ?_
        obtain ⟨SM_10, h11, hf⟩ := kC_e hf
        refine z_callV0 (pc := 35) (is := [0]) (n := 0) (As := []) (st := []) (st' := []) (C2 := [wM aM ct SM_10]) E (c_X12_save (l := l) (G := G) (ct := ct) (aM := aM) h11) wv_X12_save wd_34_5 ⟨Nat.le_of_ble_eq_true rfl, Nat.le_of_ble_eq_true rfl, Nat.le_of_ble_eq_true rfl, Nat.le_of_ble_eq_true rfl⟩ rfl rfl rfl (by decide) rfl rfl (zrM (j := 0) rfl) rfl (Nat.le_of_ble_eq_true rfl) dX12_evenings_35 rfl rfl ?_
        refine z_iconst (pc := 38) (v := 0) E dX12_evenings_38 (by decide) ?_
        refine z_istore (pc := 39) (lv' := [(4, .int 0), (0, .ref (aM 200)), (1, .int a1), (2, .int a2), (3, .int a3)]) E dX12_evenings_39 (by decide) rfl ?_
        refine z_iconst (pc := 41) (v := 0) E dX12_evenings_41 (by decide) ?_
        refine z_istore (pc := 42) (lv' := [(5, .int 0), (4, .int 0), (0, .ref (aM 200)), (1, .int a1), (2, .int a2), (3, .int a3)]) E dX12_evenings_42 (by decide) rfl ?_
        refine z_iconst (pc := 44) (v := 0) E dX12_evenings_44 (by decide) ?_
        refine z_istore (pc := 45) (lv' := [(6, .int 0), (5, .int 0), (4, .int 0), (0, .ref (aM 200)), (1, .int a1), (2, .int a2), (3, .int a3)]) E dX12_evenings_45 (by decide) rfl ?_
        refine z_sub [3, 4, 5, 6, 2, 1, 0] (lv' := [(0, .ref (aM 200)), (1, .int a1), (2, .int a2), (3, .int a3), (4, .int 0), (5, .int 0), (6, .int 0)]) rfl ?_
        exact L47 N SM_10 a1 a2 a3 0 0 0 hf
      · have hf := kB_t hf c9
        refine z_bipush (pc := 31) (v := (-2)) E dX12_evenings_31 (by decide) ?_
        cases hf
        exact z_iret E hr dX12_evenings_33
    · have hf := kB_t hf c6
      refine z_iconst (pc := 18) (v := (-1)) E dX12_evenings_18 (by decide) ?_
      cases hf
      exact z_iret E hr dX12_evenings_19
