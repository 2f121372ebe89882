noncomputable def f_X1_has (SH : zHS) (a1 : Int32) : Option Int32 := kB (a1 < 0) (some (0)) (kB ((SH.1 7) ≤ a1) (some (0)) (kB (7 ≤ a1) (some (0)) (some (1))))
theorem wv_X1_has : zWV RX1 yX1_has cX1_has 2 (some .boolean) 1 := ⟨wd_10_16, wd_10_17, wd_1_15, wd_10_18, by decide +kernel⟩
def rm_X1_has : Room := { frames := 0, cells := 0, slots := 0, locals := 0 }
set_option maxHeartbeats 4000000 in
set_option maxRecDepth 100000 in
theorem c_X1_has {l : Launch} {G : va_G} {ct : Nat → ClassId} {aH : Nat → Nat} {SH : zHS} {a1 : Int32} {r0 : Int32} (hf : f_X1_has SH a1 = some r0) : zC l yX1_has cX1_has 2 (some .boolean) rm_X1_has G ct [.ref (aH 200), .int a1] [wH aH ct SH] [wH aH ct SH] (some (.int r0)) 0 0 := by
  refine z_enter (own := RX1) (lv := [(0, .ref (aH 200)), (1, .int a1)]) (by decide) rfl (Nat.le_of_ble_eq_true rfl) rfl ?_
  intro p e s m args below meth c A E hr hnm
  unfold f_X1_has at hf
  refine z_iload_n (pc := 0) (k0 := 1) E dX1_has_0 rfl rfl ?_
  refine z_if_lt (pc := 1) (tgt := 22) E dX1_has_1 (by decide) (fun c1 => ?_) (fun c1 => ?_)
  · have hf := kB_t hf c1
    refine z_iconst (pc := 22) (v := 0) E dX1_has_22 (by decide) ?_
    cases hf
    exact z_zret E hr (by decide) dX1_has_23
  · have hf := kB_f hf c1
    refine z_iload_n (pc := 4) (k0 := 1) E dX1_has_4 rfl rfl ?_
    refine z_aload_n (pc := 5) (k0 := 0) E dX1_has_5 rfl rfl ?_
    refine gH_7 (pc := 6) (i := 0) E rfl wd_10_19 dX1_has_6 ?_
    refine z_icmp_ge (pc := 9) (tgt := 22) E dX1_has_9 (by decide) (fun c2 => ?_) (fun c2 => ?_)
    · have hf := kB_t hf c2
      refine z_iconst (pc := 22) (v := 0) E dX1_has_22 (by decide) ?_
      cases hf
      exact z_zret E hr (by decide) dX1_has_23
    · have hf := kB_f hf c2
      refine z_iload_n (pc := 12) (k0 := 1) E dX1_has_12 rfl rfl ?_
      refine z_bipush (pc := 13) (v := 7) E dX1_has_13 (by decide) ?_
      refine z_icmp_ge (pc := 15) (tgt := 22) E dX1_has_15 (by decide) (fun c3 => ?_) (fun c3 => ?_)
      · have hf := kB_t hf c3
        refine z_iconst (pc := 22) (v := 0) E dX1_has_22 (by decide) ?_
        cases hf
        exact z_zret E hr (by decide) dX1_has_23
      · have hf := kB_f hf c3
        refine z_iconst (pc := 18) (v := 1) E dX1_has_18 (by decide) ?_
        refine z_goto (pc := 19) (tgt := 23) E dX1_has_19 (by decide) ?_
        cases hf
        exact z_zret E hr (by decide) dX1_has_23
noncomputable def f_X4_grants (SP : zPS) (SH : zHS) (a2 : Int32) : Option Int32 := kC (f_X1_has SH a2) (fun r1 => kB (r1 = 0) (some (0)) (kO (¬ (a2 < 0 ∨ 7 ≤ Int32.toNatClampNeg a2)) (kL ((SH.1 11) + ((SH.2.1 0) (Int32.toNatClampNeg a2))) (fun v5 => kB ((SH.1 18) ≤ v5) (some (0)) (some (1))))))
theorem wv_X4_grants : zWV RX4 yX4_grants cX4_grants 3 (some .boolean) 2 := ⟨wd_12_10, wd_13_7, wd_8_22, wd_12_11, by decide +kernel⟩
def rm_X4_grants : Room := { frames := 1, cells := 0, slots := 0, locals := 21 }
set_option maxHeartbeats 4000000 in
set_option maxRecDepth 100000 in
theorem c_X4_grants {l : Launch} {G : va_G} {ct : Nat → ClassId} {gG : Nat} {aP : Nat} {aH : Nat → Nat} {SP : zPS} {SH : zHS} {a2 : Int32} {r0 : Int32} (hf : f_X4_grants SP SH a2 = some r0) : zC l yX4_grants cX4_grants 3 (some .boolean) rm_X4_grants G ct [.ref aP, .ref (aH 200), .int a2] [wPa gG aP SP, wH aH ct SH] [wPa gG aP SP, wH aH ct SH] (some (.int r0)) 0 0 := by
  refine z_enter (own := RX4) (lv := [(0, .ref aP), (1, .ref (aH 200)), (2, .int a2)]) (by decide) rfl (Nat.le_of_ble_eq_true rfl) rfl ?_
  intro p e s m args below meth c A E hr hnm
  unfold f_X4_grants at hf
  refine z_aload_n (pc := 0) (k0 := 1) E dX4_grants_0 rfl rfl ?_
  refine z_iload_n (pc := 1) (k0 := 2) E dX4_grants_1 rfl rfl ?_
  obtain ⟨r1, h2, hf⟩ := kC_e hf
  refine z_callV0 (pc := 2) (is := [1]) (n := 1) (As := [.int a2]) (st := []) (st' := [.int r1]) (C2 := [wPa gG aP SP, wH aH ct SH]) E (c_X1_has (l := l) (G := G) (ct := ct) (aH := aH) h2) wv_X1_has wd_12_15 ⟨Nat.le_of_ble_eq_true rfl, Nat.le_of_ble_eq_true rfl, Nat.le_of_ble_eq_true rfl, Nat.le_of_ble_eq_true rfl⟩ rfl rfl rfl (by decide) rfl rfl (zrH (j := 0) rfl) rfl (Nat.le_of_ble_eq_true rfl) dX4_grants_2 rfl rfl ?_
  refine z_if_eq (pc := 5) (tgt := 30) E dX4_grants_5 (by decide) (fun c3 => ?_) (fun c3 => ?_)
  · have hf := kB_t hf c3
    refine z_iconst (pc := 30) (v := 0) E dX4_grants_30 (by decide) ?_
    cases hf
    exact z_zret E hr (by decide) dX4_grants_31
  · have hf := kB_f hf c3
    refine z_aload_n (pc := 8) (k0 := 1) E dX4_grants_8 rfl rfl ?_
    refine gH_11 (pc := 9) (i := 1) E rfl wd_12_12 dX4_grants_9 ?_
    refine z_aload_n (pc := 12) (k0 := 1) E dX4_grants_12 rfl rfl ?_
    refine gH_0 (pc := 13) (i := 1) E rfl wd_12_13 dX4_grants_13 ?_
    refine z_iload_n (pc := 16) (k0 := 2) E dX4_grants_16 rfl rfl ?_
    obtain ⟨c4, hf⟩ := kO_e hf
    refine lH_0 (pc := 17) (i := 1) E rfl c4 dX4_grants_17 ?_
    obtain ⟨v5, e_v5, hf⟩ := kL_e hf
    refine z_iadd (pc := 18) (v := v5) E dX4_grants_18 e_v5 ?_
    refine z_aload_n (pc := 19) (k0 := 1) E dX4_grants_19 rfl rfl ?_
    refine gH_18 (pc := 20) (i := 1) E rfl wd_12_14 dX4_grants_20 ?_
    refine z_icmp_ge (pc := 23) (tgt := 30) E dX4_grants_23 (by decide) (fun c6 => ?_) (fun c6 => ?_)
    · have hf := kB_t hf c6
      refine z_iconst (pc := 30) (v := 0) E dX4_grants_30 (by decide) ?_
      cases hf
      exact z_zret E hr (by decide) dX4_grants_31
    · have hf := kB_f hf c6
      refine z_iconst (pc := 26) (v := 1) E dX4_grants_26 (by decide) ?_
      refine z_goto (pc := 27) (tgt := 31) E dX4_grants_27 (by decide) ?_
      cases hf
      exact z_zret E hr (by decide) dX4_grants_31
noncomputable def f_X7_grants (SP : zPS) (SH : zHS) (a2 : Int32) : Option Int32 := kC (f_X4_grants SP SH a2) (fun r1 => kB (r1 = 0) (some (0)) (kB ((SP.2.2) ≤ (SH.1 14)) (some (0)) (some (1))))
def rm_X7_grants : Room := { frames := 2, cells := 0, slots := 0, locals := 43 }
set_option maxHeartbeats 4000000 in
set_option maxRecDepth 100000 in
theorem c_X7_grants {l : Launch} {G : va_G} {ct : Nat → ClassId} {gG : Nat} {aP : Nat} {aH : Nat → Nat} {SP : zPS} {SH : zHS} {a2 : Int32} {r0 : Int32} (hf : f_X7_grants SP SH a2 = some r0) : zC l yX7_grants cX7_grants 3 (some .boolean) rm_X7_grants G ct [.ref aP, .ref (aH 200), .int a2] [wPa gG aP SP, wH aH ct SH] [wPa gG aP SP, wH aH ct SH] (some (.int r0)) 0 0 := by
  refine z_enter (own := RX7) (lv := [(0, .ref aP), (1, .ref (aH 200)), (2, .int a2)]) (by decide) rfl (Nat.le_of_ble_eq_true rfl) rfl ?_
  intro p e s m args below meth c A E hr hnm
  unfold f_X7_grants at hf
  refine z_aload_n (pc := 0) (k0 := 0) E dX7_grants_0 rfl rfl ?_
  refine z_aload_n (pc := 1) (k0 := 1) E dX7_grants_1 rfl rfl ?_
  refine z_iload_n (pc := 2) (k0 := 2) E dX7_grants_2 rfl rfl ?_
  obtain ⟨r1, h2, hf⟩ := kC_e hf
  refine z_callSU (pc := 3) (is := [0, 1]) (n := 2) (As := [.ref (aH 200), .int a2]) (st := []) (st' := [.int r1]) (C2 := [wPa gG aP SP, wH aH ct SH]) E (c_X4_grants (l := l) (G := G) (ct := ct) (gG := gG) (aP := aP) (aH := aH) h2) wd_12_8 wd_11_16 wd_12_9 wd_12_10 wd_8_22 wd_12_11 ⟨by decide, by decide +kernel⟩ ⟨Nat.le_of_ble_eq_true rfl, Nat.le_of_ble_eq_true rfl, Nat.le_of_ble_eq_true rfl, Nat.le_of_ble_eq_true rfl⟩ rfl rfl rfl (by decide) rfl rfl ⟨0, 0, _, _, _, _, rfl, rfl, (pcast (v := SP) E.2.2.2.2.1 E.2.2.2.2.2.1).choose_spec.1⟩ rfl (Nat.le_of_ble_eq_true rfl) dX7_grants_3 rfl rfl ?_
  show zJ p l e rm_X7_grants s m args below meth c (zQ G ct (some (.int r0)) [wPa gG aP SP, wH aH ct SH] A below args s 0 0) A G 3 0 0 [wPa gG aP SP, wH aH ct SH] [(0, .ref aP), (1, .ref (aH 200)), (2, .int a2)] 6 [.int r1]
  refine z_if_eq (pc := 6) (tgt := 24) E dX7_grants_6 (by decide) (fun c4 => ?_) (fun c4 => ?_)
  · have hf := kB_t hf c4
    refine z_iconst (pc := 24) (v := 0) E dX7_grants_24 (by decide) ?_
    cases hf
    exact z_zret E hr (by decide) dX7_grants_25
  · have hf := kB_f hf c4
    refine z_aload_n (pc := 9) (k0 := 1) E dX7_grants_9 rfl rfl ?_
    refine gH_14 (pc := 10) (i := 1) E rfl wd_12_5 dX7_grants_10 ?_
    refine z_aload_n (pc := 13) (k0 := 0) E dX7_grants_13 rfl rfl ?_
    refine gP_2 (pc := 14) (i := 0) E rfl wd_12_6 (fun x h => u_same (E.2.2.2.2.1 _ wd_12_7) x h) dX7_grants_14 ?_
    refine z_icmp_ge (pc := 17) (tgt := 24) E dX7_grants_17 (by decide) (fun c5 => ?_) (fun c5 => ?_)
    · have hf := kB_t hf c5
      refine z_iconst (pc := 24) (v := 0) E dX7_grants_24 (by decide) ?_
      cases hf
      exact z_zret E hr (by decide) dX7_grants_25
    · have hf := kB_f hf c5
      refine z_iconst (pc := 20) (v := 1) E dX7_grants_20 (by decide) ?_
      refine z_goto (pc := 21) (tgt := 25) E dX7_grants_21 (by decide) ?_
      cases hf
      exact z_zret E hr (by decide) dX7_grants_25
noncomputable def f_X0_grants (SP : zPS) (SH : zHS) (a2 : Int32) : Option Int32 := kC (f_X7_grants SP SH a2) (fun r1 => kB (r1 = 0) (some (0)) (kC (f_X1_has SH a2) (fun r5 => kB (r5 = 0) (some (0)) (kO (¬ (a2 < 0 ∨ 7 ≤ Int32.toNatClampNeg a2)) (kL ((3 : Int32) * (SP.2.2)) (fun v9 => kB (v9 < ((SH.2.1 2) (Int32.toNatClampNeg a2))) (some (0)) (some (1))))))))
def rm_X0_grants : Room := { frames := 3, cells := 0, slots := 0, locals := 65 }
set_option maxHeartbeats 4000000 in
set_option maxRecDepth 100000 in
theorem c_X0_grants {l : Launch} {G : va_G} {ct : Nat → ClassId} {gG : Nat} {aP : Nat} {aH : Nat → Nat} {SP : zPS} {SH : zHS} {a2 : Int32} {r0 : Int32} (hf : f_X0_grants SP SH a2 = some r0) : zC l yX0_grants cX0_grants 3 (some .boolean) rm_X0_grants G ct [.ref aP, .ref (aH 200), .int a2] [wPa gG aP SP, wH aH ct SH] [wPa gG aP SP, wH aH ct SH] (some (.int r0)) 0 0 := by
  refine z_enter (own := RX0) (lv := [(0, .ref aP), (1, .ref (aH 200)), (2, .int a2)]) (by decide) rfl (Nat.le_of_ble_eq_true rfl) rfl ?_
  intro p e s m args below meth c A E hr hnm
  unfold f_X0_grants at hf
  refine z_aload_n (pc := 0) (k0 := 0) E dX0_grants_0 rfl rfl ?_
  refine z_aload_n (pc := 1) (k0 := 1) E dX0_grants_1 rfl rfl ?_
  refine z_iload_n (pc := 2) (k0 := 2) E dX0_grants_2 rfl rfl ?_
  obtain ⟨r1, h2, hf⟩ := kC_e hf
  refine z_callSU (pc := 3) (is := [0, 1]) (n := 2) (As := [.ref (aH 200), .int a2]) (st := []) (st' := [.int r1]) (C2 := [wPa gG aP SP, wH aH ct SH]) E (c_X7_grants (l := l) (G := G) (ct := ct) (gG := gG) (aP := aP) (aH := aH) h2) wd_12_0 wd_12_1 wd_12_2 wd_12_3 wd_8_7 wd_12_4 ⟨by decide, by decide +kernel⟩ ⟨Nat.le_of_ble_eq_true rfl, Nat.le_of_ble_eq_true rfl, Nat.le_of_ble_eq_true rfl, Nat.le_of_ble_eq_true rfl⟩ rfl rfl rfl (by decide) rfl rfl ⟨0, 0, _, _, _, _, rfl, rfl, (pcast (v := SP) E.2.2.2.2.1 E.2.2.2.2.2.1).choose_spec.1⟩ rfl (Nat.le_of_ble_eq_true rfl) dX0_grants_3 rfl rfl ?_
  show zJ p l e rm_X0_grants s m args below meth c (zQ G ct (some (.int r0)) [wPa gG aP SP, wH aH ct SH] A below args s 0 0) A G 3 0 0 [wPa gG aP SP, wH aH ct SH] [(0, .ref aP), (1, .ref (aH 200)), (2, .int a2)] 6 [.int r1]
  refine z_if_eq (pc := 6) (tgt := 36) E dX0_grants_6 (by decide) (fun c4 => ?_) (fun c4 => ?_)
  · have hf := kB_t hf c4
    refine z_iconst (pc := 36) (v := 0) E dX0_grants_36 (by decide) ?_
    cases hf
    exact z_zret E hr (by decide) dX0_grants_37
  · have hf := kB_f hf c4
    refine z_aload_n (pc := 9) (k0 := 1) E dX0_grants_9 rfl rfl ?_
    refine z_iload_n (pc := 10) (k0 := 2) E dX0_grants_10 rfl rfl ?_
    obtain ⟨r5, h6, hf⟩ := kC_e hf
    refine z_callV0 (pc := 11) (is := [1]) (n := 1) (As := [.int a2]) (st := []) (st' := [.int r5]) (C2 := [wPa gG aP SP, wH aH ct SH]) E (c_X1_has (l := l) (G := G) (ct := ct) (aH := aH) h6) wv_X1_has wd_12_16 ⟨Nat.le_of_ble_eq_true rfl, Nat.le_of_ble_eq_true rfl, Nat.le_of_ble_eq_true rfl, Nat.le_of_ble_eq_true rfl⟩ rfl rfl rfl (by decide) rfl rfl (zrH (j := 0) rfl) rfl (Nat.le_of_ble_eq_true rfl) dX0_grants_11 rfl rfl ?_
    refine z_if_eq (pc := 14) (tgt := 36) E dX0_grants_14 (by decide) (fun c7 => ?_) (fun c7 => ?_)
    · have hf := kB_t hf c7
      refine z_iconst (pc := 36) (v := 0) E dX0_grants_36 (by decide) ?_
      cases hf
      exact z_zret E hr (by decide) dX0_grants_37
    · have hf := kB_f hf c7
      refine z_aload_n (pc := 17) (k0 := 1) E dX0_grants_17 rfl rfl ?_
      refine gH_2 (pc := 18) (i := 1) E rfl wd_11_21 dX0_grants_18 ?_
      refine z_iload_n (pc := 21) (k0 := 2) E dX0_grants_21 rfl rfl ?_
      obtain ⟨c8, hf⟩ := kO_e hf
      refine lH_2 (pc := 22) (i := 1) E rfl c8 dX0_grants_22 ?_
      refine z_iconst (pc := 23) (v := 3) E dX0_grants_23 (by decide) ?_
      refine z_aload_n (pc := 24) (k0 := 0) E dX0_grants_24 rfl rfl ?_
      refine gP_2 (pc := 25) (i := 0) E rfl wd_11_22 (fun x h => u_same (E.2.2.2.2.1 _ wd_11_23) x h) dX0_grants_25 ?_
      obtain ⟨v9, e_v9, hf⟩ := kL_e hf
      refine z_imul (pc := 28) (v := v9) E dX0_grants_28 e_v9 ?_
      refine z_icmp_gt (pc := 29) (tgt := 36) E dX0_grants_29 (by decide) (fun c10 => ?_) (fun c10 => ?_)
      · have hf := kB_t hf c10
        refine z_iconst (pc := 36) (v := 0) E dX0_grants_36 (by decide) ?_
        cases hf
        exact z_zret E hr (by decide) dX0_grants_37
      · have hf := kB_f hf c10
        refine z_iconst (pc := 32) (v := 1) E dX0_grants_32 (by decide) ?_
        refine z_goto (pc := 33) (tgt := 37) E dX0_grants_33 (by decide) ?_
        cases hf
        exact z_zret E hr (by decide) dX0_grants_37
noncomputable def f_X4_begins (SP : zPS) (SG : (Nat → Int32)) (a1 : Int32) : Option (((Nat → Int32))) := kO (¬ ((20 : Int32) < 0 ∨ 21 ≤ Int32.toNatClampNeg 20)) (kL ((SG (Int32.toNatClampNeg 20)) + 1) (fun v2 => kO (¬ ((20 : Int32) < 0 ∨ 21 ≤ Int32.toNatClampNeg 20)) (kL (upd SG (Int32.toNatClampNeg 20) v2) (fun SG_4 => kB ((SG (Int32.toNatClampNeg 20)) < 0) (some (SG_4)) (kB (20 ≤ (SG (Int32.toNatClampNeg 20))) (some (SG_4)) (kO (¬ ((SG (Int32.toNatClampNeg 20)) < 0 ∨ 21 ≤ Int32.toNatClampNeg (SG (Int32.toNatClampNeg 20)))) (kL (upd SG_4 (Int32.toNatClampNeg (SG (Int32.toNatClampNeg 20))) a1) (fun SG_8 => some (SG_8)))))))))
theorem wv_X4_begins : zWV RX4 yX4_begins cX4_begins 3 none 1 := ⟨wd_44_18, wd_46_5, wd_8_22, wd_44_19, by decide +kernel⟩
def rm_X4_begins : Room := { frames := 0, cells := 0, slots := 0, locals := 0 }
set_option maxHeartbeats 4000000 in
set_option maxRecDepth 100000 in
theorem c_X4_begins {l : Launch} {G : va_G} {ct : Nat → ClassId} {gG : Nat} {aP : Nat} {SP : zPS} {SG : (Nat → Int32)} {a1 : Int32} {OG : (Nat → Int32)} (hf : f_X4_begins SP SG a1 = some OG) : zC l yX4_begins cX4_begins 3 none rm_X4_begins G ct [.ref aP, .int a1] [wPa gG aP SP, wA gG 21 ct SG] [wPa gG aP SP, wA gG 21 ct OG] none 0 0 := by
  refine z_enter (own := RX4) (lv := [(0, .ref aP), (1, .int a1)]) (by decide) rfl (Nat.le_of_ble_eq_true rfl) rfl ?_
  intro p e s m args below meth c A E hr hnm
  unfold f_X4_begins at hf
  refine z_aload_n (pc := 0) (k0 := 0) E dX4_begins_0 rfl rfl ?_
  refine gP_3 (pc := 1) (i := 0) E rfl wd_9_9 (fun _ h => h) dX4_begins_1 ?_
  refine z_bipush (pc := 4) (v := 20) E dX4_begins_4 (by decide) ?_
  refine z_dup2 (pc := 6) E dX4_begins_6 rfl rfl ?_
  obtain ⟨c1, hf⟩ := kO_e hf
  refine lA_0 (pc := 7) (i := 1) E rfl c1 dX4_begins_7 ?_
  refine z_dup_x2 (pc := 8) E dX4_begins_8 rfl rfl rfl ?_
  refine z_iconst (pc := 9) (v := 1) E dX4_begins_9 (by decide) ?_
  obtain ⟨v2, e_v2, hf⟩ := kL_e hf
  refine z_iadd (pc := 10) (v := v2) E dX4_begins_10 e_v2 ?_
  obtain ⟨c3, hf⟩ := kO_e hf
  obtain ⟨SG_4, e_SG_4, hf⟩ := kL_e hf
  refine sA_0 (pc := 11) (i := 1) (S1 := SG_4) E rfl c3 e_SG_4 dX4_begins_11 ?_
  show zJ p l e rm_X4_begins s m args below meth c (zQ G ct none [wPa gG aP SP, wA gG 21 ct OG] A below args s 0 0) A G 3 0 0 [wPa gG aP SP, wA gG 21 ct SG_4] [(0, .ref aP), (1, .int a1)] 12 [.int (SG (Int32.toNatClampNeg 20))]
  refine z_istore_n (pc := 12) (lv' := [(2, .int (SG (Int32.toNatClampNeg 20))), (0, .ref aP), (1, .int a1)]) E dX4_begins_12 rfl (by decide) rfl ?_
  refine z_iload_n (pc := 13) (k0 := 0) E dX4_begins_13 rfl rfl ?_
  refine z_if_lt (pc := 14) (tgt := 30) E dX4_begins_14 (by decide) (fun c5 => ?_) (fun c5 => ?_)
  · have hf := kB_t hf c5
    cases hf
    exact z_vret E hr dX4_begins_30
  · have hf := kB_f hf c5
    refine z_iload_n (pc := 17) (k0 := 0) E dX4_begins_17 rfl rfl ?_
    refine z_bipush (pc := 18) (v := 20) E dX4_begins_18 (by decide) ?_
    refine z_icmp_ge (pc := 20) (tgt := 30) E dX4_begins_20 (by decide) (fun c6 => ?_) (fun c6 => ?_)
    · have hf := kB_t hf c6
      cases hf
      exact z_vret E hr dX4_begins_30
    · have hf := kB_f hf c6
      refine z_aload_n (pc := 23) (k0 := 1) E dX4_begins_23 rfl rfl ?_
      refine gP_3 (pc := 24) (i := 0) E rfl wd_9_9 (fun _ h => h) dX4_begins_24 ?_
      refine z_iload_n (pc := 27) (k0 := 0) E dX4_begins_27 rfl rfl ?_
      refine z_iload_n (pc := 28) (k0 := 2) E dX4_begins_28 rfl rfl ?_
      obtain ⟨c7, hf⟩ := kO_e hf
      obtain ⟨SG_8, e_SG_8, hf⟩ := kL_e hf
      refine sA_0 (pc := 29) (i := 1) (S1 := SG_8) E rfl c7 e_SG_8 dX4_begins_29 ?_
      show zJ p l e rm_X4_begins s m args below meth c (zQ G ct none [wPa gG aP SP, wA gG 21 ct OG] A below args s 0 0) A G 3 0 0 [wPa gG aP SP, wA gG 21 ct SG_8] [(2, .int (SG (Int32.toNatClampNeg 20))), (0, .ref aP), (1, .int a1)] 30 []
      cases hf
      exact z_vret E hr dX4_begins_30
noncomputable def f_X4_hears (SP : zPS) (SG : (Nat → Int32)) (a1 : Int32) : Option (Int32 × ((Nat → Int32))) := kO (¬ ((20 : Int32) < 0 ∨ 21 ≤ Int32.toNatClampNeg 20)) (kL ((SG (Int32.toNatClampNeg 20)) + 1) (fun v2 => kO (¬ ((20 : Int32) < 0 ∨ 21 ≤ Int32.toNatClampNeg 20)) (kL (upd SG (Int32.toNatClampNeg 20) v2) (fun SG_4 => kB ((SG (Int32.toNatClampNeg 20)) < 0) (kL (a1 + (SP.2.1)) (fun v6 => some (v6, SG_4))) (kB (20 ≤ (SG (Int32.toNatClampNeg 20))) (kL (a1 + (SP.2.1)) (fun v8 => some (v8, SG_4))) (kO (¬ ((SG (Int32.toNatClampNeg 20)) < 0 ∨ 21 ≤ Int32.toNatClampNeg (SG (Int32.toNatClampNeg 20)))) (kL (upd SG_4 (Int32.toNatClampNeg (SG (Int32.toNatClampNeg 20))) 10) (fun SG_10 => kL (a1 + (SP.2.1)) (fun v11 => some (v11, SG_10))))))))))
theorem wv_X4_hears : zWV RX4 yX4_hears cX4_hears 3 (some .int) 1 := ⟨wd_44_22, wd_45_7, wd_8_22, wd_44_23, by decide +kernel⟩
def rm_X4_hears : Room := { frames := 0, cells := 0, slots := 0, locals := 0 }
set_option maxHeartbeats 4000000 in
set_option maxRecDepth 100000 in
theorem c_X4_hears {l : Launch} {G : va_G} {ct : Nat → ClassId} {gG : Nat} {aP : Nat} {SP : zPS} {SG : (Nat → Int32)} {a1 : Int32} {r0 : Int32} {OG : (Nat → Int32)} (hf : f_X4_hears SP SG a1 = some (r0, OG)) : zC l yX4_hears cX4_hears 3 (some .int) rm_X4_hears G ct [.ref aP, .int a1] [wPa gG aP SP, wA gG 21 ct SG] [wPa gG aP SP, wA gG 21 ct OG] (some (.int r0)) 0 0 := by
  refine z_enter (own := RX4) (lv := [(0, .ref aP), (1, .int a1)]) (by decide) rfl (Nat.le_of_ble_eq_true rfl) rfl ?_
  intro p e s m args below meth c A E hr hnm
  unfold f_X4_hears at hf
  refine z_aload_n (pc := 0) (k0 := 0) E dX4_hears_0 rfl rfl ?_
  refine gP_3 (pc := 1) (i := 0) E rfl wd_9_9 (fun _ h => h) dX4_hears_1 ?_
  refine z_bipush (pc := 4) (v := 20) E dX4_hears_4 (by decide) ?_
  refine z_dup2 (pc := 6) E dX4_hears_6 rfl rfl ?_
  obtain ⟨c1, hf⟩ := kO_e hf
  refine lA_0 (pc := 7) (i := 1) E rfl c1 dX4_hears_7 ?_
  refine z_dup_x2 (pc := 8) E dX4_hears_8 rfl rfl rfl ?_
  refine z_iconst (pc := 9) (v := 1) E dX4_hears_9 (by decide) ?_
  obtain ⟨v2, e_v2, hf⟩ := kL_e hf
  refine z_iadd (pc := 10) (v := v2) E dX4_hears_10 e_v2 ?_
  obtain ⟨c3, hf⟩ := kO_e hf
  obtain ⟨SG_4, e_SG_4, hf⟩ := kL_e hf
  refine sA_0 (pc := 11) (i := 1) (S1 := SG_4) E rfl c3 e_SG_4 dX4_hears_11 ?_
  show zJ p l e rm_X4_hears s m args below meth c (zQ G ct (some (.int r0)) [wPa gG aP SP, wA gG 21 ct OG] A below args s 0 0) A G 3 0 0 [wPa gG aP SP, wA gG 21 ct SG_4] [(0, .ref aP), (1, .int a1)] 12 [.int (SG (Int32.toNatClampNeg 20))]
  refine z_istore_n (pc := 12) (lv' := [(2, .int (SG (Int32.toNatClampNeg 20))), (0, .ref aP), (1, .int a1)]) E dX4_hears_12 rfl (by decide) rfl ?_
  refine z_iload_n (pc := 13) (k0 := 0) E dX4_hears_13 rfl rfl ?_
  refine z_if_lt (pc := 14) (tgt := 31) E dX4_hears_14 (by decide) (fun c5 => ?_) (fun c5 => ?_)
  · have hf := kB_t hf c5
    refine z_iload_n (pc := 31) (k0 := 2) E dX4_hears_31 rfl rfl ?_
    refine z_aload_n (pc := 32) (k0 := 1) E dX4_hears_32 rfl rfl ?_
    refine gP_1 (pc := 33) (i := 0) E rfl wd_9_7 (fun _ h => h) dX4_hears_33 ?_
    obtain ⟨v6, e_v6, hf⟩ := kL_e hf
    refine z_iadd (pc := 36) (v := v6) E dX4_hears_36 e_v6 ?_
    cases hf
    exact z_iret E hr dX4_hears_37
  · have hf := kB_f hf c5
    refine z_iload_n (pc := 17) (k0 := 0) E dX4_hears_17 rfl rfl ?_
    refine z_bipush (pc := 18) (v := 20) E dX4_hears_18 (by decide) ?_
    refine z_icmp_ge (pc := 20) (tgt := 31) E dX4_hears_20 (by decide) (fun c7 => ?_) (fun c7 => ?_)
    · have hf := kB_t hf c7
      refine z_iload_n (pc := 31) (k0 := 2) E dX4_hears_31 rfl rfl ?_
      refine z_aload_n (pc := 32) (k0 := 1) E dX4_hears_32 rfl rfl ?_
      refine gP_1 (pc := 33) (i := 0) E rfl wd_9_7 (fun _ h => h) dX4_hears_33 ?_
      obtain ⟨v8, e_v8, hf⟩ := kL_e hf
      refine z_iadd (pc := 36) (v := v8) E dX4_hears_36 e_v8 ?_
      cases hf
      exact z_iret E hr dX4_hears_37
    · have hf := kB_f hf c7
      refine z_aload_n (pc := 23) (k0 := 1) E dX4_hears_23 rfl rfl ?_
      refine gP_3 (pc := 24) (i := 0) E rfl wd_9_9 (fun _ h => h) dX4_hears_24 ?_
      refine z_iload_n (pc := 27) (k0 := 0) E dX4_hears_27 rfl rfl ?_
      refine z_bipush (pc := 28) (v := 10) E dX4_hears_28 (by decide) ?_
      obtain ⟨c9, hf⟩ := kO_e hf
      obtain ⟨SG_10, e_SG_10, hf⟩ := kL_e hf
      refine sA_0 (pc := 30) (i := 1) (S1 := SG_10) E rfl c9 e_SG_10 dX4_hears_30 ?_
      show zJ p l e rm_X4_hears s m args below meth c (zQ G ct (some (.int r0)) [wPa gG aP SP, wA gG 21 ct OG] A below args s 0 0) A G 3 0 0 [wPa gG aP SP, wA gG 21 ct SG_10] [(2, .int (SG (Int32.toNatClampNeg 20))), (0, .ref aP), (1, .int a1)] 31 []
      refine z_iload_n (pc := 31) (k0 := 2) E dX4_hears_31 rfl rfl ?_
      refine z_aload_n (pc := 32) (k0 := 1) E dX4_hears_32 rfl rfl ?_
      refine gP_1 (pc := 33) (i := 0) E rfl wd_9_7 (fun _ h => h) dX4_hears_33 ?_
      obtain ⟨v11, e_v11, hf⟩ := kL_e hf
      refine z_iadd (pc := 36) (v := v11) E dX4_hears_36 e_v11 ?_
      cases hf
      exact z_iret E hr dX4_hears_37
noncomputable def f_X3_hears (SP : zPS) (SG : (Nat → Int32)) (a1 : Int32) : Option (Int32 × ((Nat → Int32))) := kO (SP.1 = 4) (kC (f_X4_begins SP SG 50) (fun S_1 => kD (f_X4_hears SP S_1 a1) (fun r4 S_5 => kL (-r4) (fun v8 => some (v8, S_5)))))
def rm_X3_hears : Room := { frames := 1, cells := 0, slots := 0, locals := 22 }
set_option maxHeartbeats 4000000 in
set_option maxRecDepth 100000 in
theorem c_X3_hears {l : Launch} {G : va_G} {ct : Nat → ClassId} {gG : Nat} {aP : Nat} {SP : zPS} {SG : (Nat → Int32)} {a1 : Int32} {r0 : Int32} {OG : (Nat → Int32)} (hf : f_X3_hears SP SG a1 = some (r0, OG)) : zC l yX3_hears cX3_hears 2 (some .int) rm_X3_hears G ct [.ref aP, .int a1] [wPa gG aP SP, wA gG 21 ct SG] [wPa gG aP SP, wA gG 21 ct OG] (some (.int r0)) 0 0 := by
  refine z_enter (own := RX3) (lv := [(0, .ref aP), (1, .int a1)]) (by decide) rfl (Nat.le_of_ble_eq_true rfl) rfl ?_
  intro p e s m args below meth c A E hr hnm
  unfold f_X3_hears at hf
  obtain ⟨hk, hf⟩ := kO_e hf
  refine z_aload_n (pc := 0) (k0 := 0) E dX3_hears_0 rfl rfl ?_
  refine z_bipush (pc := 1) (v := 50) E dX3_hears_1 (by decide) ?_
  obtain ⟨S_1, h2, hf⟩ := kC_e hf
  have K3 : zJ p l e rm_X3_hears s m args below meth c (zQ G ct (some (.int r0)) [wPa gG aP SP, wA gG 21 ct OG] A below args s 0 0) A G 2 0 0 [wPa gG aP SP, wA gG 21 ct S_1] [(0, .ref aP), (1, .int a1)] 6 [] := by
    refine z_aload_n (pc := 6) (k0 := 0) E dX3_hears_6 rfl rfl ?_
    refine z_iload_n (pc := 7) (k0 := 1) E dX3_hears_7 rfl rfl ?_
    obtain ⟨r4, S_5, h6, hf⟩ := kD_e hf
    refine z_callSX (x := ⟨"MoreStory$Soft", "hears", "(I)I"⟩) (owner := "MoreStory$Parent") (pc := 8) (is := [0, 1]) (n := 1) (As := [.int a1]) (st := []) (st' := [.int r4]) (C2 := [wPa gG aP SP, wA gG 21 ct S_5]) E (c_X4_hears (l := l) (G := G) (ct := ct) (gG := gG) (aP := aP) h6) wd_53_0 wd_53_1 wd_12_23 wd_13_4 wd_44_22 wd_8_22 wd_44_23 ⟨by decide, by decide +kernel⟩ ⟨Nat.le_of_ble_eq_true rfl, Nat.le_of_ble_eq_true rfl, Nat.le_of_ble_eq_true rfl, Nat.le_of_ble_eq_true rfl⟩ rfl rfl rfl (by decide) rfl rfl ⟨0, 0, _, _, _, _, rfl, rfl, (pcast (v := SP) E.2.2.2.2.1 E.2.2.2.2.2.1).choose_spec.1⟩ rfl (Nat.le_of_ble_eq_true rfl) dX3_hears_8 rfl rfl ?_
    show zJ p l e rm_X3_hears s m args below meth c (zQ G ct (some (.int r0)) [wPa gG aP SP, wA gG 21 ct OG] A below args s 0 0) A G 2 0 0 [wPa gG aP SP, wA gG 21 ct S_5] [(0, .ref aP), (1, .int a1)] 11 [.int r4]
    obtain ⟨v8, e_v8, hf⟩ := kL_e hf
    refine z_ineg (pc := 11) (v := v8) E dX3_hears_11 e_v8 ?_
    cases hf
    exact z_iret E hr dX3_hears_12
  · refine z_callU (x := ⟨"MoreStory$Melting", "begins", "(I)V"⟩) (owner := "MoreStory$Parent") (pc := 3) (is := [0, 1]) (n := 1) (As := [.int 50]) (st := []) (st' := []) (C2 := [wPa gG aP SP, wA gG 21 ct S_1]) E (c_X4_begins (l := l) (G := G) (ct := ct) (gG := gG) (aP := aP) h2) wd_45_3 wd_45_4 wd_45_5 wd_44_18 wd_8_22 wd_44_19 rfl ⟨by decide, by decide, by decide +kernel⟩ ⟨Nat.le_of_ble_eq_true rfl, Nat.le_of_ble_eq_true rfl, Nat.le_of_ble_eq_true rfl, Nat.le_of_ble_eq_true rfl⟩ rfl rfl rfl (by decide) rfl rfl (zrP3 hk (j := 0) rfl) rfl (Nat.le_of_ble_eq_true rfl) dX3_hears_3 rfl rfl ?_
    exact K3
noncomputable def f_X7_hears (SP : zPS) (SG : (Nat → Int32)) (a1 : Int32) : Option (Int32 × ((Nat → Int32))) := kO (SP.1 = 2 ∨ SP.1 = 5) (kC (f_X4_begins SP SG 30) (fun S_1 => kL (a1 * 3) (fun v4 => kD (f_X4_hears SP S_1 v4) (fun r5 S_6 => some (r5, S_6)))))
def rm_X7_hears : Room := { frames := 1, cells := 0, slots := 0, locals := 22 }
set_option maxHeartbeats 4000000 in
set_option maxRecDepth 100000 in
theorem c_X7_hears {l : Launch} {G : va_G} {ct : Nat → ClassId} {gG : Nat} {aP : Nat} {SP : zPS} {SG : (Nat → Int32)} {a1 : Int32} {r0 : Int32} {OG : (Nat → Int32)} (hf : f_X7_hears SP SG a1 = some (r0, OG)) : zC l yX7_hears cX7_hears 2 (some .int) rm_X7_hears G ct [.ref aP, .int a1] [wPa gG aP SP, wA gG 21 ct SG] [wPa gG aP SP, wA gG 21 ct OG] (some (.int r0)) 0 0 := by
  refine z_enter (own := RX7) (lv := [(0, .ref aP), (1, .int a1)]) (by decide) rfl (Nat.le_of_ble_eq_true rfl) rfl ?_
  intro p e s m args below meth c A E hr hnm
  unfold f_X7_hears at hf
  obtain ⟨hk, hf⟩ := kO_e hf
  refine z_aload_n (pc := 0) (k0 := 0) E dX7_hears_0 rfl rfl ?_
  refine z_bipush (pc := 1) (v := 30) E dX7_hears_1 (by decide) ?_
  obtain ⟨S_1, h2, hf⟩ := kC_e hf
  have K3 : zJ p l e rm_X7_hears s m args below meth c (zQ G ct (some (.int r0)) [wPa gG aP SP, wA gG 21 ct OG] A below args s 0 0) A G 2 0 0 [wPa gG aP SP, wA gG 21 ct S_1] [(0, .ref aP), (1, .int a1)] 6 [] := by
    refine z_aload_n (pc := 6) (k0 := 0) E dX7_hears_6 rfl rfl ?_
    refine z_iload_n (pc := 7) (k0 := 1) E dX7_hears_7 rfl rfl ?_
    refine z_iconst (pc := 8) (v := 3) E dX7_hears_8 (by decide) ?_
    obtain ⟨v4, e_v4, hf⟩ := kL_e hf
    refine z_imul (pc := 9) (v := v4) E dX7_hears_9 e_v4 ?_
    obtain ⟨r5, S_6, h7, hf⟩ := kD_e hf
    refine z_callSU (pc := 10) (is := [0, 1]) (n := 1) (As := [.int v4]) (st := []) (st' := [.int r5]) (C2 := [wPa gG aP SP, wA gG 21 ct S_6]) E (c_X4_hears (l := l) (G := G) (ct := ct) (gG := gG) (aP := aP) h7) wd_44_21 wd_44_10 wd_12_9 wd_44_22 wd_8_22 wd_44_23 ⟨by decide, by decide +kernel⟩ ⟨Nat.le_of_ble_eq_true rfl, Nat.le_of_ble_eq_true rfl, Nat.le_of_ble_eq_true rfl, Nat.le_of_ble_eq_true rfl⟩ rfl rfl rfl (by decide) rfl rfl ⟨0, 0, _, _, _, _, rfl, rfl, (pcast (v := SP) E.2.2.2.2.1 E.2.2.2.2.2.1).choose_spec.1⟩ rfl (Nat.le_of_ble_eq_true rfl) dX7_hears_10 rfl rfl ?_
    show zJ p l e rm_X7_hears s m args below meth c (zQ G ct (some (.int r0)) [wPa gG aP SP, wA gG 21 ct OG] A below args s 0 0) A G 2 0 0 [wPa gG aP SP, wA gG 21 ct S_6] [(0, .ref aP), (1, .int a1)] 13 [.int r5]
    cases hf
    exact z_iret E hr dX7_hears_13
  rcases hk with hk | hk
  · refine z_callU (x := ⟨"MoreStory$Strict", "begins", "(I)V"⟩) (owner := "MoreStory$Parent") (pc := 3) (is := [0, 1]) (n := 1) (As := [.int 30]) (st := []) (st' := []) (C2 := [wPa gG aP SP, wA gG 21 ct S_1]) E (c_X4_begins (l := l) (G := G) (ct := ct) (gG := gG) (aP := aP) h2) wd_44_15 wd_44_16 wd_44_20 wd_44_18 wd_8_22 wd_44_19 rfl ⟨by decide, by decide, by decide +kernel⟩ ⟨Nat.le_of_ble_eq_true rfl, Nat.le_of_ble_eq_true rfl, Nat.le_of_ble_eq_true rfl, Nat.le_of_ble_eq_true rfl⟩ rfl rfl rfl (by decide) rfl rfl (zrP7 hk (j := 0) rfl) rfl (Nat.le_of_ble_eq_true rfl) dX7_hears_3 rfl rfl ?_
    exact K3
  · refine z_callU (x := ⟨"MoreStory$Strict", "begins", "(I)V"⟩) (owner := "MoreStory$Parent") (pc := 3) (is := [0, 1]) (n := 1) (As := [.int 30]) (st := []) (st' := []) (C2 := [wPa gG aP SP, wA gG 21 ct S_1]) E (c_X4_begins (l := l) (G := G) (ct := ct) (gG := gG) (aP := aP) h2) wd_44_15 wd_44_16 wd_44_17 wd_44_18 wd_8_22 wd_44_19 rfl ⟨by decide, by decide, by decide +kernel⟩ ⟨Nat.le_of_ble_eq_true rfl, Nat.le_of_ble_eq_true rfl, Nat.le_of_ble_eq_true rfl, Nat.le_of_ble_eq_true rfl⟩ rfl rfl rfl (by decide) rfl rfl (zrP0 hk (j := 0) rfl) rfl (Nat.le_of_ble_eq_true rfl) dX7_hears_3 rfl rfl ?_
    exact K3
noncomputable def f_X9_hears (SP : zPS) (SG : (Nat → Int32)) (a1 : Int32) : Option (Int32 × ((Nat → Int32))) := kO (SP.1 = 6) (kC (f_X4_begins SP SG 71) (fun S_1 => kD (f_X4_hears SP S_1 a1) (fun r4 S_5 => kL (r4 ^^^ (SP.2.2)) (fun v8 => some (v8, S_5)))))
def rm_X9_hears : Room := { frames := 1, cells := 0, slots := 0, locals := 22 }
set_option maxHeartbeats 4000000 in
set_option maxRecDepth 100000 in
theorem c_X9_hears {l : Launch} {G : va_G} {ct : Nat → ClassId} {gG : Nat} {aP : Nat} {SP : zPS} {SG : (Nat → Int32)} {a1 : Int32} {r0 : Int32} {OG : (Nat → Int32)} (hf : f_X9_hears SP SG a1 = some (r0, OG)) : zC l yX9_hears cX9_hears 2 (some .int) rm_X9_hears G ct [.ref aP, .int a1] [wPa gG aP SP, wA gG 21 ct SG] [wPa gG aP SP, wA gG 21 ct OG] (some (.int r0)) 0 0 := by
  refine z_enter (own := RX9) (lv := [(0, .ref aP), (1, .int a1)]) (by decide) rfl (Nat.le_of_ble_eq_true rfl) rfl ?_
  intro p e s m args below meth c A E hr hnm
  unfold f_X9_hears at hf
  obtain ⟨hk, hf⟩ := kO_e hf
  refine z_aload_n (pc := 0) (k0 := 0) E dX9_hears_0 rfl rfl ?_
  refine z_bipush (pc := 1) (v := 71) E dX9_hears_1 (by decide) ?_
  obtain ⟨S_1, h2, hf⟩ := kC_e hf
  have K3 : zJ p l e rm_X9_hears s m args below meth c (zQ G ct (some (.int r0)) [wPa gG aP SP, wA gG 21 ct OG] A below args s 0 0) A G 2 0 0 [wPa gG aP SP, wA gG 21 ct S_1] [(0, .ref aP), (1, .int a1)] 6 [] := by
    refine z_aload_n (pc := 6) (k0 := 0) E dX9_hears_6 rfl rfl ?_
    refine z_iload_n (pc := 7) (k0 := 1) E dX9_hears_7 rfl rfl ?_
    obtain ⟨r4, S_5, h6, hf⟩ := kD_e hf
    refine z_callSX (x := ⟨"MoreStory$Tired", "hears", "(I)I"⟩) (owner := "MoreStory$Parent") (pc := 8) (is := [0, 1]) (n := 1) (As := [.int a1]) (st := []) (st' := [.int r4]) (C2 := [wPa gG aP SP, wA gG 21 ct S_5]) E (c_X4_hears (l := l) (G := G) (ct := ct) (gG := gG) (aP := aP) h6) wd_53_2 wd_53_3 wd_14_2 wd_48_13 wd_44_22 wd_8_22 wd_44_23 ⟨by decide, by decide +kernel⟩ ⟨Nat.le_of_ble_eq_true rfl, Nat.le_of_ble_eq_true rfl, Nat.le_of_ble_eq_true rfl, Nat.le_of_ble_eq_true rfl⟩ rfl rfl rfl (by decide) rfl rfl ⟨0, 0, _, _, _, _, rfl, rfl, (pcast (v := SP) E.2.2.2.2.1 E.2.2.2.2.2.1).choose_spec.1⟩ rfl (Nat.le_of_ble_eq_true rfl) dX9_hears_8 rfl rfl ?_
    show zJ p l e rm_X9_hears s m args below meth c (zQ G ct (some (.int r0)) [wPa gG aP SP, wA gG 21 ct OG] A below args s 0 0) A G 2 0 0 [wPa gG aP SP, wA gG 21 ct S_5] [(0, .ref aP), (1, .int a1)] 11 [.int r4]
    refine z_aload_n (pc := 11) (k0 := 0) E dX9_hears_11 rfl rfl ?_
    refine gP_2 (pc := 12) (i := 0) E rfl wd_45_14 (fun x h => u_same (E.2.2.2.2.1 _ wd_45_15) x h) dX9_hears_12 ?_
    obtain ⟨v8, e_v8, hf⟩ := kL_e hf
    refine z_ixor (pc := 15) (v := v8) E dX9_hears_15 e_v8 ?_
    cases hf
    exact z_iret E hr dX9_hears_16
  · refine z_callU (x := ⟨"MoreStory$Told", "begins", "(I)V"⟩) (owner := "MoreStory$Parent") (pc := 3) (is := [0, 1]) (n := 1) (As := [.int 71]) (st := []) (st' := []) (C2 := [wPa gG aP SP, wA gG 21 ct S_1]) E (c_X4_begins (l := l) (G := G) (ct := ct) (gG := gG) (aP := aP) h2) wd_45_16 wd_45_17 wd_45_18 wd_44_18 wd_8_22 wd_44_19 rfl ⟨by decide, by decide, by decide +kernel⟩ ⟨Nat.le_of_ble_eq_true rfl, Nat.le_of_ble_eq_true rfl, Nat.le_of_ble_eq_true rfl, Nat.le_of_ble_eq_true rfl⟩ rfl rfl rfl (by decide) rfl rfl (zrP9 hk (j := 0) rfl) rfl (Nat.le_of_ble_eq_true rfl) dX9_hears_3 rfl rfl ?_
    exact K3
noncomputable def f_v_hears (SP : zPS) (SG : Nat → Int32) (a : Int32) : Option (Int32 × ((Nat → Int32))) := kB (SP.1 = 1) (f_X4_hears SP SG a) (kB (SP.1 = 2) (f_X7_hears SP SG a) (kB (SP.1 = 3) (f_X4_hears SP SG a) (kB (SP.1 = 4) (f_X3_hears SP SG a) (kB (SP.1 = 5) (f_X7_hears SP SG a) (kB (SP.1 = 6) (f_X9_hears SP SG a) (f_X4_hears SP SG a))))))
theorem f_v_hears_1 {SP : zPS} {SG : Nat → Int32} {a : Int32} {o : Option (Int32 × ((Nat → Int32)))} (h : SP.1 = 1) (hf : f_v_hears SP SG a = o) : f_X4_hears SP SG a = o := by
  unfold f_v_hears at hf
  exact kB_t hf h
theorem f_v_hears_2 {SP : zPS} {SG : Nat → Int32} {a : Int32} {o : Option (Int32 × ((Nat → Int32)))} (h : SP.1 = 2) (hf : f_v_hears SP SG a = o) : f_X7_hears SP SG a = o := by
  unfold f_v_hears at hf
  have hf := kB_f hf (by rw [h]; decide)
  exact kB_t hf h
theorem f_v_hears_3 {SP : zPS} {SG : Nat → Int32} {a : Int32} {o : Option (Int32 × ((Nat → Int32)))} (h : SP.1 = 3) (hf : f_v_hears SP SG a = o) : f_X4_hears SP SG a = o := by
  unfold f_v_hears at hf
  have hf := kB_f hf (by rw [h]; decide)
  have hf := kB_f hf (by rw [h]; decide)
  exact kB_t hf h
theorem f_v_hears_4 {SP : zPS} {SG : Nat → Int32} {a : Int32} {o : Option (Int32 × ((Nat → Int32)))} (h : SP.1 = 4) (hf : f_v_hears SP SG a = o) : f_X3_hears SP SG a = o := by
  unfold f_v_hears at hf
  have hf := kB_f hf (by rw [h]; decide)
  have hf := kB_f hf (by rw [h]; decide)
  have hf := kB_f hf (by rw [h]; decide)
  exact kB_t hf h
theorem f_v_hears_5 {SP : zPS} {SG : Nat → Int32} {a : Int32} {o : Option (Int32 × ((Nat → Int32)))} (h : SP.1 = 5) (hf : f_v_hears SP SG a = o) : f_X7_hears SP SG a = o := by
  unfold f_v_hears at hf
  have hf := kB_f hf (by rw [h]; decide)
  have hf := kB_f hf (by rw [h]; decide)
  have hf := kB_f hf (by rw [h]; decide)
  have hf := kB_f hf (by rw [h]; decide)
  exact kB_t hf h
theorem f_v_hears_6 {SP : zPS} {SG : Nat → Int32} {a : Int32} {o : Option (Int32 × ((Nat → Int32)))} (h : SP.1 = 6) (hf : f_v_hears SP SG a = o) : f_X9_hears SP SG a = o := by
  unfold f_v_hears at hf
  have hf := kB_f hf (by rw [h]; decide)
  have hf := kB_f hf (by rw [h]; decide)
  have hf := kB_f hf (by rw [h]; decide)
  have hf := kB_f hf (by rw [h]; decide)
  have hf := kB_f hf (by rw [h]; decide)
  exact kB_t hf h
theorem f_v_hears_e {SP : zPS} {SG : Nat → Int32} {a : Int32} {o : Option (Int32 × ((Nat → Int32)))} (h1 : ¬ SP.1 = 1) (h2 : ¬ SP.1 = 2) (h3 : ¬ SP.1 = 3) (h4 : ¬ SP.1 = 4) (h5 : ¬ SP.1 = 5) (h6 : ¬ SP.1 = 6) (hf : f_v_hears SP SG a = o) : f_X4_hears SP SG a = o := by
  unfold f_v_hears at hf
  have hf := kB_f hf h1
  have hf := kB_f hf h2
  have hf := kB_f hf h3
  have hf := kB_f hf h4
  have hf := kB_f hf h5
  have hf := kB_f hf h6
  exact hf
noncomputable def f_X4_gives (SP : zPS) (SG : (Nat → Int32)) (a1 : Int32) : Option (Int32 × ((Nat → Int32))) := kC (f_X4_begins SP SG 11) (fun S_1 => kD (f_v_hears SP S_1 a1) (fun r4 S_5 => kL (r4 - (SP.2.2)) (fun v8 => some (v8, S_5))))
theorem wv_X4_gives : zWV RX4 yX4_gives cX4_gives 2 (some .int) 1 := ⟨wd_45_22, wd_47_2, wd_8_22, wd_45_23, by decide +kernel⟩
def rm_X4_gives : Room := { frames := 2, cells := 0, slots := 0, locals := 43 }
set_option maxHeartbeats 4000000 in
set_option maxRecDepth 100000 in
theorem c_X4_gives {l : Launch} {G : va_G} {ct : Nat → ClassId} {gG : Nat} {aP : Nat} {SP : zPS} {SG : (Nat → Int32)} {a1 : Int32} {r0 : Int32} {OG : (Nat → Int32)} (hf : f_X4_gives SP SG a1 = some (r0, OG)) : zC l yX4_gives cX4_gives 2 (some .int) rm_X4_gives G ct [.ref aP, .int a1] [wPa gG aP SP, wA gG 21 ct SG] [wPa gG aP SP, wA gG 21 ct OG] (some (.int r0)) 0 0 := by
  refine z_enter (own := RX4) (lv := [(0, .ref aP), (1, .int a1)]) (by decide) rfl (Nat.le_of_ble_eq_true rfl) rfl ?_
  intro p e s m args below meth c A E hr hnm
  unfold f_X4_gives at hf
  refine z_aload_n (pc := 0) (k0 := 0) E dX4_gives_0 rfl rfl ?_
  refine z_bipush (pc := 1) (v := 11) E dX4_gives_1 (by decide) ?_
  obtain ⟨S_1, h2, hf⟩ := kC_e hf
  have K3 : zJ p l e rm_X4_gives s m args below meth c (zQ G ct (some (.int r0)) [wPa gG aP SP, wA gG 21 ct OG] A below args s 0 0) A G 2 0 0 [wPa gG aP SP, wA gG 21 ct S_1] [(0, .ref aP), (1, .int a1)] 6 [] := by
    refine z_aload_n (pc := 6) (k0 := 0) E dX4_gives_6 rfl rfl ?_
    refine z_iload_n (pc := 7) (k0 := 1) E dX4_gives_7 rfl rfl ?_
    obtain ⟨r4, S_5, h6, hf⟩ := kD_e hf
    have K7 : zJ p l e rm_X4_gives s m args below meth c (zQ G ct (some (.int r0)) [wPa gG aP SP, wA gG 21 ct OG] A below args s 0 0) A G 2 0 0 [wPa gG aP SP, wA gG 21 ct S_5] [(0, .ref aP), (1, .int a1)] 11 [.int r4] := by
      refine z_aload_n (pc := 11) (k0 := 0) E dX4_gives_11 rfl rfl ?_
      refine gP_2 (pc := 12) (i := 0) E rfl wd_9_8 (fun _ h => h) dX4_gives_12 ?_
      obtain ⟨v8, e_v8, hf⟩ := kL_e hf
      refine z_isub (pc := 15) (v := v8) E dX4_gives_15 e_v8 ?_
      cases hf
      exact z_iret E hr dX4_gives_16
    by_cases k9 : SP.1 = 1
    · have h6 := f_v_hears_1 k9 h6
      refine z_callU (x := ⟨"MoreStory$Parent", "hears", "(I)I"⟩) (owner := "MoreStory$Parent") (pc := 8) (is := [0, 1]) (n := 1) (As := [.int a1]) (st := []) (st' := [.int r4]) (C2 := [wPa gG aP SP, wA gG 21 ct S_5]) E (c_X4_hears (l := l) (G := G) (ct := ct) (gG := gG) (aP := aP) h6) wd_46_10 wd_44_10 wd_45_8 wd_44_22 wd_8_22 wd_44_23 rfl ⟨by decide, by decide, by decide +kernel⟩ ⟨Nat.le_of_ble_eq_true rfl, Nat.le_of_ble_eq_true rfl, Nat.le_of_ble_eq_true rfl, Nat.le_of_ble_eq_true rfl⟩ rfl rfl rfl (by decide) rfl rfl (zrP6 k9 (j := 0) rfl) rfl (Nat.le_of_ble_eq_true rfl) dX4_gives_8 rfl rfl ?_
      exact K7
    by_cases k10 : SP.1 = 2
    · have h6 := f_v_hears_2 k10 h6
      refine z_callO (x := ⟨"MoreStory$Parent", "hears", "(I)I"⟩) (owner := "MoreStory$Parent") (pc := 8) (is := [0, 1]) (n := 1) (As := [.int a1]) (st := []) (st' := [.int r4]) (C2 := [wPa gG aP SP, wA gG 21 ct S_5]) E (c_X7_hears (l := l) (G := G) (ct := ct) (gG := gG) (aP := aP) h6) wd_46_10 wd_44_10 wd_44_11 wd_45_9 wd_44_13 wd_8_7 wd_44_14 wd_44_23 ⟨by decide, by decide, by decide +kernel⟩ ⟨Nat.le_of_ble_eq_true rfl, Nat.le_of_ble_eq_true rfl, Nat.le_of_ble_eq_true rfl, Nat.le_of_ble_eq_true rfl⟩ rfl rfl rfl (by decide) rfl rfl (zrP7 k10 (j := 0) rfl) rfl (Nat.le_of_ble_eq_true rfl) dX4_gives_8 rfl rfl ?_
      exact K7
    by_cases k11 : SP.1 = 3
    · have h6 := f_v_hears_3 k11 h6
      refine z_callU (x := ⟨"MoreStory$Parent", "hears", "(I)I"⟩) (owner := "MoreStory$Parent") (pc := 8) (is := [0, 1]) (n := 1) (As := [.int a1]) (st := []) (st' := [.int r4]) (C2 := [wPa gG aP SP, wA gG 21 ct S_5]) E (c_X4_hears (l := l) (G := G) (ct := ct) (gG := gG) (aP := aP) h6) wd_46_10 wd_44_10 wd_45_10 wd_44_22 wd_8_22 wd_44_23 rfl ⟨by decide, by decide, by decide +kernel⟩ ⟨Nat.le_of_ble_eq_true rfl, Nat.le_of_ble_eq_true rfl, Nat.le_of_ble_eq_true rfl, Nat.le_of_ble_eq_true rfl⟩ rfl rfl rfl (by decide) rfl rfl (zrP8 k11 (j := 0) rfl) rfl (Nat.le_of_ble_eq_true rfl) dX4_gives_8 rfl rfl ?_
      exact K7
    by_cases k12 : SP.1 = 4
    · have h6 := f_v_hears_4 k12 h6
      refine z_callO (x := ⟨"MoreStory$Parent", "hears", "(I)I"⟩) (owner := "MoreStory$Parent") (pc := 8) (is := [0, 1]) (n := 1) (As := [.int a1]) (st := []) (st' := [.int r4]) (C2 := [wPa gG aP SP, wA gG 21 ct S_5]) E (c_X3_hears (l := l) (G := G) (ct := ct) (gG := gG) (aP := aP) h6) wd_46_10 wd_44_10 wd_44_11 wd_45_0 wd_45_1 wd_8_13 wd_45_2 wd_44_23 ⟨by decide, by decide, by decide +kernel⟩ ⟨Nat.le_of_ble_eq_true rfl, Nat.le_of_ble_eq_true rfl, Nat.le_of_ble_eq_true rfl, Nat.le_of_ble_eq_true rfl⟩ rfl rfl rfl (by decide) rfl rfl (zrP3 k12 (j := 0) rfl) rfl (Nat.le_of_ble_eq_true rfl) dX4_gives_8 rfl rfl ?_
      exact K7
    by_cases k13 : SP.1 = 5
    · have h6 := f_v_hears_5 k13 h6
      refine z_callO (x := ⟨"MoreStory$Parent", "hears", "(I)I"⟩) (owner := "MoreStory$Parent") (pc := 8) (is := [0, 1]) (n := 1) (As := [.int a1]) (st := []) (st' := [.int r4]) (C2 := [wPa gG aP SP, wA gG 21 ct S_5]) E (c_X7_hears (l := l) (G := G) (ct := ct) (gG := gG) (aP := aP) h6) wd_46_10 wd_44_10 wd_44_11 wd_44_12 wd_44_13 wd_8_7 wd_44_14 wd_44_23 ⟨by decide, by decide, by decide +kernel⟩ ⟨Nat.le_of_ble_eq_true rfl, Nat.le_of_ble_eq_true rfl, Nat.le_of_ble_eq_true rfl, Nat.le_of_ble_eq_true rfl⟩ rfl rfl rfl (by decide) rfl rfl (zrP0 k13 (j := 0) rfl) rfl (Nat.le_of_ble_eq_true rfl) dX4_gives_8 rfl rfl ?_
      exact K7
    by_cases k14 : SP.1 = 6
    · have h6 := f_v_hears_6 k14 h6
      refine z_callO (x := ⟨"MoreStory$Parent", "hears", "(I)I"⟩) (owner := "MoreStory$Parent") (pc := 8) (is := [0, 1]) (n := 1) (As := [.int a1]) (st := []) (st' := [.int r4]) (C2 := [wPa gG aP SP, wA gG 21 ct S_5]) E (c_X9_hears (l := l) (G := G) (ct := ct) (gG := gG) (aP := aP) h6) wd_46_10 wd_44_10 wd_44_11 wd_45_11 wd_45_12 wd_8_19 wd_45_13 wd_44_23 ⟨by decide, by decide, by decide +kernel⟩ ⟨Nat.le_of_ble_eq_true rfl, Nat.le_of_ble_eq_true rfl, Nat.le_of_ble_eq_true rfl, Nat.le_of_ble_eq_true rfl⟩ rfl rfl rfl (by decide) rfl rfl (zrP9 k14 (j := 0) rfl) rfl (Nat.le_of_ble_eq_true rfl) dX4_gives_8 rfl rfl ?_
      exact K7
    have h6 := f_v_hears_e k9 k10 k11 k12 k13 k14 h6
    refine z_callV0 (pc := 8) (is := [0, 1]) (n := 1) (As := [.int a1]) (st := []) (st' := [.int r4]) (C2 := [wPa gG aP SP, wA gG 21 ct S_5]) E (c_X4_hears (l := l) (G := G) (ct := ct) (gG := gG) (aP := aP) h6) wv_X4_hears wd_46_11 ⟨Nat.le_of_ble_eq_true rfl, Nat.le_of_ble_eq_true rfl, Nat.le_of_ble_eq_true rfl, Nat.le_of_ble_eq_true rfl⟩ rfl rfl rfl (by decide) rfl rfl (zrP4 k9 k10 k11 k12 k13 k14 (j := 0) rfl) rfl (Nat.le_of_ble_eq_true rfl) dX4_gives_8 rfl rfl ?_
    exact K7
  by_cases k15 : SP.1 = 1
  · skip
    refine z_callU (x := ⟨"MoreStory$Parent", "begins", "(I)V"⟩) (owner := "MoreStory$Parent") (pc := 3) (is := [0, 1]) (n := 1) (As := [.int 11]) (st := []) (st' := []) (C2 := [wPa gG aP SP, wA gG 21 ct S_1]) E (c_X4_begins (l := l) (G := G) (ct := ct) (gG := gG) (aP := aP) h2) wd_46_0 wd_46_1 wd_46_6 wd_44_18 wd_8_22 wd_44_19 rfl ⟨by decide, by decide, by decide +kernel⟩ ⟨Nat.le_of_ble_eq_true rfl, Nat.le_of_ble_eq_true rfl, Nat.le_of_ble_eq_true rfl, Nat.le_of_ble_eq_true rfl⟩ rfl rfl rfl (by decide) rfl rfl (zrP6 k15 (j := 0) rfl) rfl (Nat.le_of_ble_eq_true rfl) dX4_gives_3 rfl rfl ?_
    exact K3
  by_cases k16 : SP.1 = 2
  · skip
    refine z_callU (x := ⟨"MoreStory$Parent", "begins", "(I)V"⟩) (owner := "MoreStory$Parent") (pc := 3) (is := [0, 1]) (n := 1) (As := [.int 11]) (st := []) (st' := []) (C2 := [wPa gG aP SP, wA gG 21 ct S_1]) E (c_X4_begins (l := l) (G := G) (ct := ct) (gG := gG) (aP := aP) h2) wd_46_0 wd_46_1 wd_46_7 wd_44_18 wd_8_22 wd_44_19 rfl ⟨by decide, by decide, by decide +kernel⟩ ⟨Nat.le_of_ble_eq_true rfl, Nat.le_of_ble_eq_true rfl, Nat.le_of_ble_eq_true rfl, Nat.le_of_ble_eq_true rfl⟩ rfl rfl rfl (by decide) rfl rfl (zrP7 k16 (j := 0) rfl) rfl (Nat.le_of_ble_eq_true rfl) dX4_gives_3 rfl rfl ?_
    exact K3
  by_cases k17 : SP.1 = 3
  · skip
    refine z_callU (x := ⟨"MoreStory$Parent", "begins", "(I)V"⟩) (owner := "MoreStory$Parent") (pc := 3) (is := [0, 1]) (n := 1) (As := [.int 11]) (st := []) (st' := []) (C2 := [wPa gG aP SP, wA gG 21 ct S_1]) E (c_X4_begins (l := l) (G := G) (ct := ct) (gG := gG) (aP := aP) h2) wd_46_0 wd_46_1 wd_46_8 wd_44_18 wd_8_22 wd_44_19 rfl ⟨by decide, by decide, by decide +kernel⟩ ⟨Nat.le_of_ble_eq_true rfl, Nat.le_of_ble_eq_true rfl, Nat.le_of_ble_eq_true rfl, Nat.le_of_ble_eq_true rfl⟩ rfl rfl rfl (by decide) rfl rfl (zrP8 k17 (j := 0) rfl) rfl (Nat.le_of_ble_eq_true rfl) dX4_gives_3 rfl rfl ?_
    exact K3
  by_cases k18 : SP.1 = 4
  · skip
    refine z_callU (x := ⟨"MoreStory$Parent", "begins", "(I)V"⟩) (owner := "MoreStory$Parent") (pc := 3) (is := [0, 1]) (n := 1) (As := [.int 11]) (st := []) (st' := []) (C2 := [wPa gG aP SP, wA gG 21 ct S_1]) E (c_X4_begins (l := l) (G := G) (ct := ct) (gG := gG) (aP := aP) h2) wd_46_0 wd_46_1 wd_46_3 wd_44_18 wd_8_22 wd_44_19 rfl ⟨by decide, by decide, by decide +kernel⟩ ⟨Nat.le_of_ble_eq_true rfl, Nat.le_of_ble_eq_true rfl, Nat.le_of_ble_eq_true rfl, Nat.le_of_ble_eq_true rfl⟩ rfl rfl rfl (by decide) rfl rfl (zrP3 k18 (j := 0) rfl) rfl (Nat.le_of_ble_eq_true rfl) dX4_gives_3 rfl rfl ?_
    exact K3
  by_cases k19 : SP.1 = 5
  · skip
    refine z_callU (x := ⟨"MoreStory$Parent", "begins", "(I)V"⟩) (owner := "MoreStory$Parent") (pc := 3) (is := [0, 1]) (n := 1) (As := [.int 11]) (st := []) (st' := []) (C2 := [wPa gG aP SP, wA gG 21 ct S_1]) E (c_X4_begins (l := l) (G := G) (ct := ct) (gG := gG) (aP := aP) h2) wd_46_0 wd_46_1 wd_46_2 wd_44_18 wd_8_22 wd_44_19 rfl ⟨by decide, by decide, by decide +kernel⟩ ⟨Nat.le_of_ble_eq_true rfl, Nat.le_of_ble_eq_true rfl, Nat.le_of_ble_eq_true rfl, Nat.le_of_ble_eq_true rfl⟩ rfl rfl rfl (by decide) rfl rfl (zrP0 k19 (j := 0) rfl) rfl (Nat.le_of_ble_eq_true rfl) dX4_gives_3 rfl rfl ?_
    exact K3
  by_cases k20 : SP.1 = 6
  · skip
    refine z_callU (x := ⟨"MoreStory$Parent", "begins", "(I)V"⟩) (owner := "MoreStory$Parent") (pc := 3) (is := [0, 1]) (n := 1) (As := [.int 11]) (st := []) (st' := []) (C2 := [wPa gG aP SP, wA gG 21 ct S_1]) E (c_X4_begins (l := l) (G := G) (ct := ct) (gG := gG) (aP := aP) h2) wd_46_0 wd_46_1 wd_46_9 wd_44_18 wd_8_22 wd_44_19 rfl ⟨by decide, by decide, by decide +kernel⟩ ⟨Nat.le_of_ble_eq_true rfl, Nat.le_of_ble_eq_true rfl, Nat.le_of_ble_eq_true rfl, Nat.le_of_ble_eq_true rfl⟩ rfl rfl rfl (by decide) rfl rfl (zrP9 k20 (j := 0) rfl) rfl (Nat.le_of_ble_eq_true rfl) dX4_gives_3 rfl rfl ?_
    exact K3
  refine z_callV0 (pc := 3) (is := [0, 1]) (n := 1) (As := [.int 11]) (st := []) (st' := []) (C2 := [wPa gG aP SP, wA gG 21 ct S_1]) E (c_X4_begins (l := l) (G := G) (ct := ct) (gG := gG) (aP := aP) h2) wv_X4_begins wd_46_4 ⟨Nat.le_of_ble_eq_true rfl, Nat.le_of_ble_eq_true rfl, Nat.le_of_ble_eq_true rfl, Nat.le_of_ble_eq_true rfl⟩ rfl rfl rfl (by decide) rfl rfl (zrP4 k15 k16 k17 k18 k19 k20 (j := 0) rfl) rfl (Nat.le_of_ble_eq_true rfl) dX4_gives_3 rfl rfl ?_
  exact K3
noncomputable def f_X6_gives (SP : zPS) (SG : (Nat → Int32)) (a1 : Int32) : Option (Int32 × ((Nat → Int32))) := kO (SP.1 = 1 ∨ SP.1 = 4) (kC (f_X4_begins SP SG 20) (fun S_1 => kD (f_X4_gives SP S_1 a1) (fun r4 S_5 => kL (r4 ^^^ 6) (fun v8 => some (v8, S_5)))))
def rm_X6_gives : Room := { frames := 3, cells := 0, slots := 0, locals := 64 }
set_option maxHeartbeats 4000000 in
set_option maxRecDepth 100000 in
theorem c_X6_gives {l : Launch} {G : va_G} {ct : Nat → ClassId} {gG : Nat} {aP : Nat} {SP : zPS} {SG : (Nat → Int32)} {a1 : Int32} {r0 : Int32} {OG : (Nat → Int32)} (hf : f_X6_gives SP SG a1 = some (r0, OG)) : zC l yX6_gives cX6_gives 2 (some .int) rm_X6_gives G ct [.ref aP, .int a1] [wPa gG aP SP, wA gG 21 ct SG] [wPa gG aP SP, wA gG 21 ct OG] (some (.int r0)) 0 0 := by
  refine z_enter (own := RX6) (lv := [(0, .ref aP), (1, .int a1)]) (by decide) rfl (Nat.le_of_ble_eq_true rfl) rfl ?_
  intro p e s m args below meth c A E hr hnm
  unfold f_X6_gives at hf
  obtain ⟨hk, hf⟩ := kO_e hf
  refine z_aload_n (pc := 0) (k0 := 0) E dX6_gives_0 rfl rfl ?_
  refine z_bipush (pc := 1) (v := 20) E dX6_gives_1 (by decide) ?_
  obtain ⟨S_1, h2, hf⟩ := kC_e hf
  have K3 : zJ p l e rm_X6_gives s m args below meth c (zQ G ct (some (.int r0)) [wPa gG aP SP, wA gG 21 ct OG] A below args s 0 0) A G 2 0 0 [wPa gG aP SP, wA gG 21 ct S_1] [(0, .ref aP), (1, .int a1)] 6 [] := by
    refine z_aload_n (pc := 6) (k0 := 0) E dX6_gives_6 rfl rfl ?_
    refine z_iload_n (pc := 7) (k0 := 1) E dX6_gives_7 rfl rfl ?_
    obtain ⟨r4, S_5, h6, hf⟩ := kD_e hf
    refine z_callSU (pc := 8) (is := [0, 1]) (n := 1) (As := [.int a1]) (st := []) (st' := [.int r4]) (C2 := [wPa gG aP SP, wA gG 21 ct S_5]) E (c_X4_gives (l := l) (G := G) (ct := ct) (gG := gG) (aP := aP) h6) wd_47_0 wd_45_20 wd_13_4 wd_45_22 wd_8_22 wd_45_23 ⟨by decide, by decide +kernel⟩ ⟨Nat.le_of_ble_eq_true rfl, Nat.le_of_ble_eq_true rfl, Nat.le_of_ble_eq_true rfl, Nat.le_of_ble_eq_true rfl⟩ rfl rfl rfl (by decide) rfl rfl ⟨0, 0, _, _, _, _, rfl, rfl, (pcast (v := SP) E.2.2.2.2.1 E.2.2.2.2.2.1).choose_spec.1⟩ rfl (Nat.le_of_ble_eq_true rfl) dX6_gives_8 rfl rfl ?_
    show zJ p l e rm_X6_gives s m args below meth c (zQ G ct (some (.int r0)) [wPa gG aP SP, wA gG 21 ct OG] A below args s 0 0) A G 2 0 0 [wPa gG aP SP, wA gG 21 ct S_5] [(0, .ref aP), (1, .int a1)] 11 [.int r4]
    refine z_bipush (pc := 11) (v := 6) E dX6_gives_11 (by decide) ?_
    obtain ⟨v8, e_v8, hf⟩ := kL_e hf
    refine z_ixor (pc := 13) (v := v8) E dX6_gives_13 e_v8 ?_
    cases hf
    exact z_iret E hr dX6_gives_14
  rcases hk with hk | hk
  · refine z_callU (x := ⟨"MoreStory$Soft", "begins", "(I)V"⟩) (owner := "MoreStory$Parent") (pc := 3) (is := [0, 1]) (n := 1) (As := [.int 20]) (st := []) (st' := []) (C2 := [wPa gG aP SP, wA gG 21 ct S_1]) E (c_X4_begins (l := l) (G := G) (ct := ct) (gG := gG) (aP := aP) h2) wd_46_20 wd_46_21 wd_46_23 wd_44_18 wd_8_22 wd_44_19 rfl ⟨by decide, by decide, by decide +kernel⟩ ⟨Nat.le_of_ble_eq_true rfl, Nat.le_of_ble_eq_true rfl, Nat.le_of_ble_eq_true rfl, Nat.le_of_ble_eq_true rfl⟩ rfl rfl rfl (by decide) rfl rfl (zrP6 hk (j := 0) rfl) rfl (Nat.le_of_ble_eq_true rfl) dX6_gives_3 rfl rfl ?_
    exact K3
  · refine z_callU (x := ⟨"MoreStory$Soft", "begins", "(I)V"⟩) (owner := "MoreStory$Parent") (pc := 3) (is := [0, 1]) (n := 1) (As := [.int 20]) (st := []) (st' := []) (C2 := [wPa gG aP SP, wA gG 21 ct S_1]) E (c_X4_begins (l := l) (G := G) (ct := ct) (gG := gG) (aP := aP) h2) wd_46_20 wd_46_21 wd_46_22 wd_44_18 wd_8_22 wd_44_19 rfl ⟨by decide, by decide, by decide +kernel⟩ ⟨Nat.le_of_ble_eq_true rfl, Nat.le_of_ble_eq_true rfl, Nat.le_of_ble_eq_true rfl, Nat.le_of_ble_eq_true rfl⟩ rfl rfl rfl (by decide) rfl rfl (zrP3 hk (j := 0) rfl) rfl (Nat.le_of_ble_eq_true rfl) dX6_gives_3 rfl rfl ?_
    exact K3
noncomputable def f_X3_gives (SP : zPS) (SG : (Nat → Int32)) (a1 : Int32) : Option (Int32 × ((Nat → Int32))) := kO (SP.1 = 4) (kC (f_X4_begins SP SG 51) (fun S_1 => kL (a1 + 1) (fun v4 => kD (f_X6_gives SP S_1 v4) (fun r5 S_6 => some (r5, S_6)))))
def rm_X3_gives : Room := { frames := 4, cells := 0, slots := 0, locals := 85 }
set_option maxHeartbeats 4000000 in
set_option maxRecDepth 100000 in
theorem c_X3_gives {l : Launch} {G : va_G} {ct : Nat → ClassId} {gG : Nat} {aP : Nat} {SP : zPS} {SG : (Nat → Int32)} {a1 : Int32} {r0 : Int32} {OG : (Nat → Int32)} (hf : f_X3_gives SP SG a1 = some (r0, OG)) : zC l yX3_gives cX3_gives 2 (some .int) rm_X3_gives G ct [.ref aP, .int a1] [wPa gG aP SP, wA gG 21 ct SG] [wPa gG aP SP, wA gG 21 ct OG] (some (.int r0)) 0 0 := by
  refine z_enter (own := RX3) (lv := [(0, .ref aP), (1, .int a1)]) (by decide) rfl (Nat.le_of_ble_eq_true rfl) rfl ?_
  intro p e s m args below meth c A E hr hnm
  unfold f_X3_gives at hf
  obtain ⟨hk, hf⟩ := kO_e hf
  refine z_aload_n (pc := 0) (k0 := 0) E dX3_gives_0 rfl rfl ?_
  refine z_bipush (pc := 1) (v := 51) E dX3_gives_1 (by decide) ?_
  obtain ⟨S_1, h2, hf⟩ := kC_e hf
  have K3 : zJ p l e rm_X3_gives s m args below meth c (zQ G ct (some (.int r0)) [wPa gG aP SP, wA gG 21 ct OG] A below args s 0 0) A G 2 0 0 [wPa gG aP SP, wA gG 21 ct S_1] [(0, .ref aP), (1, .int a1)] 6 [] := by
    refine z_aload_n (pc := 6) (k0 := 0) E dX3_gives_6 rfl rfl ?_
    refine z_iload_n (pc := 7) (k0 := 1) E dX3_gives_7 rfl rfl ?_
    refine z_iconst (pc := 8) (v := 1) E dX3_gives_8 (by decide) ?_
    obtain ⟨v4, e_v4, hf⟩ := kL_e hf
    refine z_iadd (pc := 9) (v := v4) E dX3_gives_9 e_v4 ?_
    obtain ⟨r5, S_6, h7, hf⟩ := kD_e hf
    refine z_callSU (pc := 10) (is := [0, 1]) (n := 1) (As := [.int v4]) (st := []) (st' := [.int r5]) (C2 := [wPa gG aP SP, wA gG 21 ct S_6]) E (c_X6_gives (l := l) (G := G) (ct := ct) (gG := gG) (aP := aP) h7) wd_46_16 wd_46_17 wd_12_23 wd_46_18 wd_8_4 wd_46_19 ⟨by decide, by decide +kernel⟩ ⟨Nat.le_of_ble_eq_true rfl, Nat.le_of_ble_eq_true rfl, Nat.le_of_ble_eq_true rfl, Nat.le_of_ble_eq_true rfl⟩ rfl rfl rfl (by decide) rfl rfl ⟨0, 0, _, _, _, _, rfl, rfl, (pcast (v := SP) E.2.2.2.2.1 E.2.2.2.2.2.1).choose_spec.1⟩ rfl (Nat.le_of_ble_eq_true rfl) dX3_gives_10 rfl rfl ?_
    show zJ p l e rm_X3_gives s m args below meth c (zQ G ct (some (.int r0)) [wPa gG aP SP, wA gG 21 ct OG] A below args s 0 0) A G 2 0 0 [wPa gG aP SP, wA gG 21 ct S_6] [(0, .ref aP), (1, .int a1)] 13 [.int r5]
    cases hf
    exact z_iret E hr dX3_gives_13
  · refine z_callU (x := ⟨"MoreStory$Melting", "begins", "(I)V"⟩) (owner := "MoreStory$Parent") (pc := 3) (is := [0, 1]) (n := 1) (As := [.int 51]) (st := []) (st' := []) (C2 := [wPa gG aP SP, wA gG 21 ct S_1]) E (c_X4_begins (l := l) (G := G) (ct := ct) (gG := gG) (aP := aP) h2) wd_45_3 wd_45_4 wd_45_5 wd_44_18 wd_8_22 wd_44_19 rfl ⟨by decide, by decide, by decide +kernel⟩ ⟨Nat.le_of_ble_eq_true rfl, Nat.le_of_ble_eq_true rfl, Nat.le_of_ble_eq_true rfl, Nat.le_of_ble_eq_true rfl⟩ rfl rfl rfl (by decide) rfl rfl (zrP3 hk (j := 0) rfl) rfl (Nat.le_of_ble_eq_true rfl) dX3_gives_3 rfl rfl ?_
    exact K3
noncomputable def f_X9_gives (SP : zPS) (SG : (Nat → Int32)) (a1 : Int32) : Option (Int32 × ((Nat → Int32))) := kO (SP.1 = 6) (kC (f_X4_begins SP SG 70) (fun S_1 => kD (f_X4_gives SP S_1 a1) (fun r4 S_5 => kD (f_X4_hears SP S_5 2) (fun r8 S_9 => kL (r4 + r8) (fun v12 => some (v12, S_9))))))
def rm_X9_gives : Room := { frames := 3, cells := 0, slots := 0, locals := 64 }
set_option maxHeartbeats 4000000 in
set_option maxRecDepth 100000 in
theorem c_X9_gives {l : Launch} {G : va_G} {ct : Nat → ClassId} {gG : Nat} {aP : Nat} {SP : zPS} {SG : (Nat → Int32)} {a1 : Int32} {r0 : Int32} {OG : (Nat → Int32)} (hf : f_X9_gives SP SG a1 = some (r0, OG)) : zC l yX9_gives cX9_gives 2 (some .int) rm_X9_gives G ct [.ref aP, .int a1] [wPa gG aP SP, wA gG 21 ct SG] [wPa gG aP SP, wA gG 21 ct OG] (some (.int r0)) 0 0 := by
  refine z_enter (own := RX9) (lv := [(0, .ref aP), (1, .int a1)]) (by decide) rfl (Nat.le_of_ble_eq_true rfl) rfl ?_
  intro p e s m args below meth c A E hr hnm
  unfold f_X9_gives at hf
  obtain ⟨hk, hf⟩ := kO_e hf
  refine z_aload_n (pc := 0) (k0 := 0) E dX9_gives_0 rfl rfl ?_
  refine z_bipush (pc := 1) (v := 70) E dX9_gives_1 (by decide) ?_
  obtain ⟨S_1, h2, hf⟩ := kC_e hf
  have K3 : zJ p l e rm_X9_gives s m args below meth c (zQ G ct (some (.int r0)) [wPa gG aP SP, wA gG 21 ct OG] A below args s 0 0) A G 2 0 0 [wPa gG aP SP, wA gG 21 ct S_1] [(0, .ref aP), (1, .int a1)] 6 [] := by
    refine z_aload_n (pc := 6) (k0 := 0) E dX9_gives_6 rfl rfl ?_
    refine z_iload_n (pc := 7) (k0 := 1) E dX9_gives_7 rfl rfl ?_
    obtain ⟨r4, S_5, h6, hf⟩ := kD_e hf
    refine z_callSX (x := ⟨"MoreStory$Tired", "gives", "(I)I"⟩) (owner := "MoreStory$Parent") (pc := 8) (is := [0, 1]) (n := 1) (As := [.int a1]) (st := []) (st' := [.int r4]) (C2 := [wPa gG aP SP, wA gG 21 ct S_5]) E (c_X4_gives (l := l) (G := G) (ct := ct) (gG := gG) (aP := aP) h6) wd_53_4 wd_48_15 wd_14_2 wd_48_13 wd_45_22 wd_8_22 wd_45_23 ⟨by decide, by decide +kernel⟩ ⟨Nat.le_of_ble_eq_true rfl, Nat.le_of_ble_eq_true rfl, Nat.le_of_ble_eq_true rfl, Nat.le_of_ble_eq_true rfl⟩ rfl rfl rfl (by decide) rfl rfl ⟨0, 0, _, _, _, _, rfl, rfl, (pcast (v := SP) E.2.2.2.2.1 E.2.2.2.2.2.1).choose_spec.1⟩ rfl (Nat.le_of_ble_eq_true rfl) dX9_gives_8 rfl rfl ?_
    show zJ p l e rm_X9_gives s m args below meth c (zQ G ct (some (.int r0)) [wPa gG aP SP, wA gG 21 ct OG] A below args s 0 0) A G 2 0 0 [wPa gG aP SP, wA gG 21 ct S_5] [(0, .ref aP), (1, .int a1)] 11 [.int r4]
    refine z_aload_n (pc := 11) (k0 := 0) E dX9_gives_11 rfl rfl ?_
    refine z_iconst (pc := 12) (v := 2) E dX9_gives_12 (by decide) ?_
    obtain ⟨r8, S_9, h10, hf⟩ := kD_e hf
    refine z_callSX (x := ⟨"MoreStory$Tired", "hears", "(I)I"⟩) (owner := "MoreStory$Parent") (pc := 13) (is := [0, 1]) (n := 1) (As := [.int 2]) (st := [.int r4]) (st' := [.int r8, .int r4]) (C2 := [wPa gG aP SP, wA gG 21 ct S_9]) E (c_X4_hears (l := l) (G := G) (ct := ct) (gG := gG) (aP := aP) h10) wd_53_2 wd_53_3 wd_14_2 wd_48_13 wd_44_22 wd_8_22 wd_44_23 ⟨by decide, by decide +kernel⟩ ⟨Nat.le_of_ble_eq_true rfl, Nat.le_of_ble_eq_true rfl, Nat.le_of_ble_eq_true rfl, Nat.le_of_ble_eq_true rfl⟩ rfl rfl rfl (by decide) rfl rfl ⟨0, 0, _, _, _, _, rfl, rfl, (pcast (v := SP) E.2.2.2.2.1 E.2.2.2.2.2.1).choose_spec.1⟩ rfl (Nat.le_of_ble_eq_true rfl) dX9_gives_13 rfl rfl ?_
    show zJ p l e rm_X9_gives s m args below meth c (zQ G ct (some (.int r0)) [wPa gG aP SP, wA gG 21 ct OG] A below args s 0 0) A G 2 0 0 [wPa gG aP SP, wA gG 21 ct S_9] [(0, .ref aP), (1, .int a1)] 16 [.int r8, .int r4]
    obtain ⟨v12, e_v12, hf⟩ := kL_e hf
    refine z_iadd (pc := 16) (v := v12) E dX9_gives_16 e_v12 ?_
    cases hf
    exact z_iret E hr dX9_gives_17
  · refine z_callU (x := ⟨"MoreStory$Told", "begins", "(I)V"⟩) (owner := "MoreStory$Parent") (pc := 3) (is := [0, 1]) (n := 1) (As := [.int 70]) (st := []) (st' := []) (C2 := [wPa gG aP SP, wA gG 21 ct S_1]) E (c_X4_begins (l := l) (G := G) (ct := ct) (gG := gG) (aP := aP) h2) wd_45_16 wd_45_17 wd_45_18 wd_44_18 wd_8_22 wd_44_19 rfl ⟨by decide, by decide, by decide +kernel⟩ ⟨Nat.le_of_ble_eq_true rfl, Nat.le_of_ble_eq_true rfl, Nat.le_of_ble_eq_true rfl, Nat.le_of_ble_eq_true rfl⟩ rfl rfl rfl (by decide) rfl rfl (zrP9 hk (j := 0) rfl) rfl (Nat.le_of_ble_eq_true rfl) dX9_gives_3 rfl rfl ?_
    exact K3
noncomputable def f_v_gives (SP : zPS) (SG : Nat → Int32) (a : Int32) : Option (Int32 × ((Nat → Int32))) := kB (SP.1 = 1) (f_X6_gives SP SG a) (kB (SP.1 = 2) (f_X4_gives SP SG a) (kB (SP.1 = 3) (f_X4_gives SP SG a) (kB (SP.1 = 4) (f_X3_gives SP SG a) (kB (SP.1 = 5) (f_X4_gives SP SG a) (kB (SP.1 = 6) (f_X9_gives SP SG a) (f_X4_gives SP SG a))))))
theorem f_v_gives_1 {SP : zPS} {SG : Nat → Int32} {a : Int32} {o : Option (Int32 × ((Nat → Int32)))} (h : SP.1 = 1) (hf : f_v_gives SP SG a = o) : f_X6_gives SP SG a = o := by
  unfold f_v_gives at hf
  exact kB_t hf h
theorem f_v_gives_2 {SP : zPS} {SG : Nat → Int32} {a : Int32} {o : Option (Int32 × ((Nat → Int32)))} (h : SP.1 = 2) (hf : f_v_gives SP SG a = o) : f_X4_gives SP SG a = o := by
  unfold f_v_gives at hf
  have hf := kB_f hf (by rw [h]; decide)
  exact kB_t hf h
theorem f_v_gives_3 {SP : zPS} {SG : Nat → Int32} {a : Int32} {o : Option (Int32 × ((Nat → Int32)))} (h : SP.1 = 3) (hf : f_v_gives SP SG a = o) : f_X4_gives SP SG a = o := by
  unfold f_v_gives at hf
  have hf := kB_f hf (by rw [h]; decide)
  have hf := kB_f hf (by rw [h]; decide)
  exact kB_t hf h
theorem f_v_gives_4 {SP : zPS} {SG : Nat → Int32} {a : Int32} {o : Option (Int32 × ((Nat → Int32)))} (h : SP.1 = 4) (hf : f_v_gives SP SG a = o) : f_X3_gives SP SG a = o := by
  unfold f_v_gives at hf
  have hf := kB_f hf (by rw [h]; decide)
  have hf := kB_f hf (by rw [h]; decide)
  have hf := kB_f hf (by rw [h]; decide)
  exact kB_t hf h
theorem f_v_gives_5 {SP : zPS} {SG : Nat → Int32} {a : Int32} {o : Option (Int32 × ((Nat → Int32)))} (h : SP.1 = 5) (hf : f_v_gives SP SG a = o) : f_X4_gives SP SG a = o := by
  unfold f_v_gives at hf
  have hf := kB_f hf (by rw [h]; decide)
  have hf := kB_f hf (by rw [h]; decide)
  have hf := kB_f hf (by rw [h]; decide)
  have hf := kB_f hf (by rw [h]; decide)
  exact kB_t hf h
theorem f_v_gives_6 {SP : zPS} {SG : Nat → Int32} {a : Int32} {o : Option (Int32 × ((Nat → Int32)))} (h : SP.1 = 6) (hf : f_v_gives SP SG a = o) : f_X9_gives SP SG a = o := by
  unfold f_v_gives at hf
  have hf := kB_f hf (by rw [h]; decide)
  have hf := kB_f hf (by rw [h]; decide)
  have hf := kB_f hf (by rw [h]; decide)
  have hf := kB_f hf (by rw [h]; decide)
  have hf := kB_f hf (by rw [h]; decide)
  exact kB_t hf h
theorem f_v_gives_e {SP : zPS} {SG : Nat → Int32} {a : Int32} {o : Option (Int32 × ((Nat → Int32)))} (h1 : ¬ SP.1 = 1) (h2 : ¬ SP.1 = 2) (h3 : ¬ SP.1 = 3) (h4 : ¬ SP.1 = 4) (h5 : ¬ SP.1 = 5) (h6 : ¬ SP.1 = 6) (hf : f_v_gives SP SG a = o) : f_X4_gives SP SG a = o := by
  unfold f_v_gives at hf
  have hf := kB_f hf h1
  have hf := kB_f hf h2
  have hf := kB_f hf h3
  have hf := kB_f hf h4
  have hf := kB_f hf h5
  have hf := kB_f hf h6
  exact hf
noncomputable def f_X4_tells (SP : zPS) (SG : (Nat → Int32)) (a1 : Int32) : Option (Int32 × ((Nat → Int32))) := kC (f_X4_begins SP SG 12) (fun S_1 => kD (f_v_gives SP S_1 a1) (fun r4 S_5 => kL (r4 * 2) (fun v8 => some (v8, S_5))))
theorem wv_X4_tells : zWV RX4 yX4_tells cX4_tells 2 (some .int) 1 := ⟨wd_47_22, wd_48_2, wd_8_22, wd_47_20, by decide +kernel⟩
def rm_X4_tells : Room := { frames := 5, cells := 0, slots := 0, locals := 106 }
set_option maxHeartbeats 4000000 in
set_option maxRecDepth 100000 in
theorem c_X4_tells {l : Launch} {G : va_G} {ct : Nat → ClassId} {gG : Nat} {aP : Nat} {SP : zPS} {SG : (Nat → Int32)} {a1 : Int32} {r0 : Int32} {OG : (Nat → Int32)} (hf : f_X4_tells SP SG a1 = some (r0, OG)) : zC l yX4_tells cX4_tells 2 (some .int) rm_X4_tells G ct [.ref aP, .int a1] [wPa gG aP SP, wA gG 21 ct SG] [wPa gG aP SP, wA gG 21 ct OG] (some (.int r0)) 0 0 := by
  refine z_enter (own := RX4) (lv := [(0, .ref aP), (1, .int a1)]) (by decide) rfl (Nat.le_of_ble_eq_true rfl) rfl ?_
  intro p e s m args below meth c A E hr hnm
  unfold f_X4_tells at hf
  refine z_aload_n (pc := 0) (k0 := 0) E dX4_tells_0 rfl rfl ?_
  refine z_bipush (pc := 1) (v := 12) E dX4_tells_1 (by decide) ?_
  obtain ⟨S_1, h2, hf⟩ := kC_e hf
  have K3 : zJ p l e rm_X4_tells s m args below meth c (zQ G ct (some (.int r0)) [wPa gG aP SP, wA gG 21 ct OG] A below args s 0 0) A G 2 0 0 [wPa gG aP SP, wA gG 21 ct S_1] [(0, .ref aP), (1, .int a1)] 6 [] := by
    refine z_aload_n (pc := 6) (k0 := 0) E dX4_tells_6 rfl rfl ?_
    refine z_iload_n (pc := 7) (k0 := 1) E dX4_tells_7 rfl rfl ?_
    obtain ⟨r4, S_5, h6, hf⟩ := kD_e hf
    have K7 : zJ p l e rm_X4_tells s m args below meth c (zQ G ct (some (.int r0)) [wPa gG aP SP, wA gG 21 ct OG] A below args s 0 0) A G 2 0 0 [wPa gG aP SP, wA gG 21 ct S_5] [(0, .ref aP), (1, .int a1)] 11 [.int r4] := by
      refine z_iconst (pc := 11) (v := 2) E dX4_tells_11 (by decide) ?_
      obtain ⟨v8, e_v8, hf⟩ := kL_e hf
      refine z_imul (pc := 12) (v := v8) E dX4_tells_12 e_v8 ?_
      cases hf
      exact z_iret E hr dX4_tells_13
    by_cases k9 : SP.1 = 1
    · have h6 := f_v_gives_1 k9 h6
      refine z_callO (x := ⟨"MoreStory$Parent", "gives", "(I)I"⟩) (owner := "MoreStory$Parent") (pc := 8) (is := [0, 1]) (n := 1) (As := [.int a1]) (st := []) (st' := [.int r4]) (C2 := [wPa gG aP SP, wA gG 21 ct S_5]) E (c_X6_gives (l := l) (G := G) (ct := ct) (gG := gG) (aP := aP) h6) wd_47_23 wd_45_20 wd_46_12 wd_47_3 wd_46_18 wd_8_4 wd_46_19 wd_45_23 ⟨by decide, by decide, by decide +kernel⟩ ⟨Nat.le_of_ble_eq_true rfl, Nat.le_of_ble_eq_true rfl, Nat.le_of_ble_eq_true rfl, Nat.le_of_ble_eq_true rfl⟩ rfl rfl rfl (by decide) rfl rfl (zrP6 k9 (j := 0) rfl) rfl (Nat.le_of_ble_eq_true rfl) dX4_tells_8 rfl rfl ?_
      exact K7
    by_cases k10 : SP.1 = 2
    · have h6 := f_v_gives_2 k10 h6
      refine z_callU (x := ⟨"MoreStory$Parent", "gives", "(I)I"⟩) (owner := "MoreStory$Parent") (pc := 8) (is := [0, 1]) (n := 1) (As := [.int a1]) (st := []) (st' := [.int r4]) (C2 := [wPa gG aP SP, wA gG 21 ct S_5]) E (c_X4_gives (l := l) (G := G) (ct := ct) (gG := gG) (aP := aP) h6) wd_47_23 wd_45_20 wd_47_4 wd_45_22 wd_8_22 wd_45_23 rfl ⟨by decide, by decide, by decide +kernel⟩ ⟨Nat.le_of_ble_eq_true rfl, Nat.le_of_ble_eq_true rfl, Nat.le_of_ble_eq_true rfl, Nat.le_of_ble_eq_true rfl⟩ rfl rfl rfl (by decide) rfl rfl (zrP7 k10 (j := 0) rfl) rfl (Nat.le_of_ble_eq_true rfl) dX4_tells_8 rfl rfl ?_
      exact K7
    by_cases k11 : SP.1 = 3
    · have h6 := f_v_gives_3 k11 h6
      refine z_callU (x := ⟨"MoreStory$Parent", "gives", "(I)I"⟩) (owner := "MoreStory$Parent") (pc := 8) (is := [0, 1]) (n := 1) (As := [.int a1]) (st := []) (st' := [.int r4]) (C2 := [wPa gG aP SP, wA gG 21 ct S_5]) E (c_X4_gives (l := l) (G := G) (ct := ct) (gG := gG) (aP := aP) h6) wd_47_23 wd_45_20 wd_47_5 wd_45_22 wd_8_22 wd_45_23 rfl ⟨by decide, by decide, by decide +kernel⟩ ⟨Nat.le_of_ble_eq_true rfl, Nat.le_of_ble_eq_true rfl, Nat.le_of_ble_eq_true rfl, Nat.le_of_ble_eq_true rfl⟩ rfl rfl rfl (by decide) rfl rfl (zrP8 k11 (j := 0) rfl) rfl (Nat.le_of_ble_eq_true rfl) dX4_tells_8 rfl rfl ?_
      exact K7
    by_cases k12 : SP.1 = 4
    · have h6 := f_v_gives_4 k12 h6
      refine z_callO (x := ⟨"MoreStory$Parent", "gives", "(I)I"⟩) (owner := "MoreStory$Parent") (pc := 8) (is := [0, 1]) (n := 1) (As := [.int a1]) (st := []) (st' := [.int r4]) (C2 := [wPa gG aP SP, wA gG 21 ct S_5]) E (c_X3_gives (l := l) (G := G) (ct := ct) (gG := gG) (aP := aP) h6) wd_47_23 wd_45_20 wd_46_12 wd_46_13 wd_46_14 wd_8_13 wd_46_15 wd_45_23 ⟨by decide, by decide, by decide +kernel⟩ ⟨Nat.le_of_ble_eq_true rfl, Nat.le_of_ble_eq_true rfl, Nat.le_of_ble_eq_true rfl, Nat.le_of_ble_eq_true rfl⟩ rfl rfl rfl (by decide) rfl rfl (zrP3 k12 (j := 0) rfl) rfl (Nat.le_of_ble_eq_true rfl) dX4_tells_8 rfl rfl ?_
      exact K7
    by_cases k13 : SP.1 = 5
    · have h6 := f_v_gives_5 k13 h6
      refine z_callU (x := ⟨"MoreStory$Parent", "gives", "(I)I"⟩) (owner := "MoreStory$Parent") (pc := 8) (is := [0, 1]) (n := 1) (As := [.int a1]) (st := []) (st' := [.int r4]) (C2 := [wPa gG aP SP, wA gG 21 ct S_5]) E (c_X4_gives (l := l) (G := G) (ct := ct) (gG := gG) (aP := aP) h6) wd_47_23 wd_45_20 wd_45_21 wd_45_22 wd_8_22 wd_45_23 rfl ⟨by decide, by decide, by decide +kernel⟩ ⟨Nat.le_of_ble_eq_true rfl, Nat.le_of_ble_eq_true rfl, Nat.le_of_ble_eq_true rfl, Nat.le_of_ble_eq_true rfl⟩ rfl rfl rfl (by decide) rfl rfl (zrP0 k13 (j := 0) rfl) rfl (Nat.le_of_ble_eq_true rfl) dX4_tells_8 rfl rfl ?_
      exact K7
    by_cases k14 : SP.1 = 6
    · have h6 := f_v_gives_6 k14 h6
      refine z_callO (x := ⟨"MoreStory$Parent", "gives", "(I)I"⟩) (owner := "MoreStory$Parent") (pc := 8) (is := [0, 1]) (n := 1) (As := [.int a1]) (st := []) (st' := [.int r4]) (C2 := [wPa gG aP SP, wA gG 21 ct S_5]) E (c_X9_gives (l := l) (G := G) (ct := ct) (gG := gG) (aP := aP) h6) wd_47_23 wd_45_20 wd_46_12 wd_47_6 wd_47_7 wd_8_19 wd_47_8 wd_45_23 ⟨by decide, by decide, by decide +kernel⟩ ⟨Nat.le_of_ble_eq_true rfl, Nat.le_of_ble_eq_true rfl, Nat.le_of_ble_eq_true rfl, Nat.le_of_ble_eq_true rfl⟩ rfl rfl rfl (by decide) rfl rfl (zrP9 k14 (j := 0) rfl) rfl (Nat.le_of_ble_eq_true rfl) dX4_tells_8 rfl rfl ?_
      exact K7
    have h6 := f_v_gives_e k9 k10 k11 k12 k13 k14 h6
    refine z_callV0 (pc := 8) (is := [0, 1]) (n := 1) (As := [.int a1]) (st := []) (st' := [.int r4]) (C2 := [wPa gG aP SP, wA gG 21 ct S_5]) E (c_X4_gives (l := l) (G := G) (ct := ct) (gG := gG) (aP := aP) h6) wv_X4_gives wd_48_0 ⟨Nat.le_of_ble_eq_true rfl, Nat.le_of_ble_eq_true rfl, Nat.le_of_ble_eq_true rfl, Nat.le_of_ble_eq_true rfl⟩ rfl rfl rfl (by decide) rfl rfl (zrP4 k9 k10 k11 k12 k13 k14 (j := 0) rfl) rfl (Nat.le_of_ble_eq_true rfl) dX4_tells_8 rfl rfl ?_
    exact K7
  by_cases k15 : SP.1 = 1
  · skip
    refine z_callU (x := ⟨"MoreStory$Parent", "begins", "(I)V"⟩) (owner := "MoreStory$Parent") (pc := 3) (is := [0, 1]) (n := 1) (As := [.int 12]) (st := []) (st' := []) (C2 := [wPa gG aP SP, wA gG 21 ct S_1]) E (c_X4_begins (l := l) (G := G) (ct := ct) (gG := gG) (aP := aP) h2) wd_46_0 wd_46_1 wd_46_6 wd_44_18 wd_8_22 wd_44_19 rfl ⟨by decide, by decide, by decide +kernel⟩ ⟨Nat.le_of_ble_eq_true rfl, Nat.le_of_ble_eq_true rfl, Nat.le_of_ble_eq_true rfl, Nat.le_of_ble_eq_true rfl⟩ rfl rfl rfl (by decide) rfl rfl (zrP6 k15 (j := 0) rfl) rfl (Nat.le_of_ble_eq_true rfl) dX4_tells_3 rfl rfl ?_
    exact K3
  by_cases k16 : SP.1 = 2
  · skip
    refine z_callU (x := ⟨"MoreStory$Parent", "begins", "(I)V"⟩) (owner := "MoreStory$Parent") (pc := 3) (is := [0, 1]) (n := 1) (As := [.int 12]) (st := []) (st' := []) (C2 := [wPa gG aP SP, wA gG 21 ct S_1]) E (c_X4_begins (l := l) (G := G) (ct := ct) (gG := gG) (aP := aP) h2) wd_46_0 wd_46_1 wd_46_7 wd_44_18 wd_8_22 wd_44_19 rfl ⟨by decide, by decide, by decide +kernel⟩ ⟨Nat.le_of_ble_eq_true rfl, Nat.le_of_ble_eq_true rfl, Nat.le_of_ble_eq_true rfl, Nat.le_of_ble_eq_true rfl⟩ rfl rfl rfl (by decide) rfl rfl (zrP7 k16 (j := 0) rfl) rfl (Nat.le_of_ble_eq_true rfl) dX4_tells_3 rfl rfl ?_
    exact K3
  by_cases k17 : SP.1 = 3
  · skip
    refine z_callU (x := ⟨"MoreStory$Parent", "begins", "(I)V"⟩) (owner := "MoreStory$Parent") (pc := 3) (is := [0, 1]) (n := 1) (As := [.int 12]) (st := []) (st' := []) (C2 := [wPa gG aP SP, wA gG 21 ct S_1]) E (c_X4_begins (l := l) (G := G) (ct := ct) (gG := gG) (aP := aP) h2) wd_46_0 wd_46_1 wd_46_8 wd_44_18 wd_8_22 wd_44_19 rfl ⟨by decide, by decide, by decide +kernel⟩ ⟨Nat.le_of_ble_eq_true rfl, Nat.le_of_ble_eq_true rfl, Nat.le_of_ble_eq_true rfl, Nat.le_of_ble_eq_true rfl⟩ rfl rfl rfl (by decide) rfl rfl (zrP8 k17 (j := 0) rfl) rfl (Nat.le_of_ble_eq_true rfl) dX4_tells_3 rfl rfl ?_
    exact K3
  by_cases k18 : SP.1 = 4
  · skip
    refine z_callU (x := ⟨"MoreStory$Parent", "begins", "(I)V"⟩) (owner := "MoreStory$Parent") (pc := 3) (is := [0, 1]) (n := 1) (As := [.int 12]) (st := []) (st' := []) (C2 := [wPa gG aP SP, wA gG 21 ct S_1]) E (c_X4_begins (l := l) (G := G) (ct := ct) (gG := gG) (aP := aP) h2) wd_46_0 wd_46_1 wd_46_3 wd_44_18 wd_8_22 wd_44_19 rfl ⟨by decide, by decide, by decide +kernel⟩ ⟨Nat.le_of_ble_eq_true rfl, Nat.le_of_ble_eq_true rfl, Nat.le_of_ble_eq_true rfl, Nat.le_of_ble_eq_true rfl⟩ rfl rfl rfl (by decide) rfl rfl (zrP3 k18 (j := 0) rfl) rfl (Nat.le_of_ble_eq_true rfl) dX4_tells_3 rfl rfl ?_
    exact K3
  by_cases k19 : SP.1 = 5
  · skip
    refine z_callU (x := ⟨"MoreStory$Parent", "begins", "(I)V"⟩) (owner := "MoreStory$Parent") (pc := 3) (is := [0, 1]) (n := 1) (As := [.int 12]) (st := []) (st' := []) (C2 := [wPa gG aP SP, wA gG 21 ct S_1]) E (c_X4_begins (l := l) (G := G) (ct := ct) (gG := gG) (aP := aP) h2) wd_46_0 wd_46_1 wd_46_2 wd_44_18 wd_8_22 wd_44_19 rfl ⟨by decide, by decide, by decide +kernel⟩ ⟨Nat.le_of_ble_eq_true rfl, Nat.le_of_ble_eq_true rfl, Nat.le_of_ble_eq_true rfl, Nat.le_of_ble_eq_true rfl⟩ rfl rfl rfl (by decide) rfl rfl (zrP0 k19 (j := 0) rfl) rfl (Nat.le_of_ble_eq_true rfl) dX4_tells_3 rfl rfl ?_
    exact K3
  by_cases k20 : SP.1 = 6
  · skip
    refine z_callU (x := ⟨"MoreStory$Parent", "begins", "(I)V"⟩) (owner := "MoreStory$Parent") (pc := 3) (is := [0, 1]) (n := 1) (As := [.int 12]) (st := []) (st' := []) (C2 := [wPa gG aP SP, wA gG 21 ct S_1]) E (c_X4_begins (l := l) (G := G) (ct := ct) (gG := gG) (aP := aP) h2) wd_46_0 wd_46_1 wd_46_9 wd_44_18 wd_8_22 wd_44_19 rfl ⟨by decide, by decide, by decide +kernel⟩ ⟨Nat.le_of_ble_eq_true rfl, Nat.le_of_ble_eq_true rfl, Nat.le_of_ble_eq_true rfl, Nat.le_of_ble_eq_true rfl⟩ rfl rfl rfl (by decide) rfl rfl (zrP9 k20 (j := 0) rfl) rfl (Nat.le_of_ble_eq_true rfl) dX4_tells_3 rfl rfl ?_
    exact K3
  refine z_callV0 (pc := 3) (is := [0, 1]) (n := 1) (As := [.int 12]) (st := []) (st' := []) (C2 := [wPa gG aP SP, wA gG 21 ct S_1]) E (c_X4_begins (l := l) (G := G) (ct := ct) (gG := gG) (aP := aP) h2) wv_X4_begins wd_46_4 ⟨Nat.le_of_ble_eq_true rfl, Nat.le_of_ble_eq_true rfl, Nat.le_of_ble_eq_true rfl, Nat.le_of_ble_eq_true rfl⟩ rfl rfl rfl (by decide) rfl rfl (zrP4 k15 k16 k17 k18 k19 k20 (j := 0) rfl) rfl (Nat.le_of_ble_eq_true rfl) dX4_tells_3 rfl rfl ?_
  exact K3
noncomputable def f_X0_tells (SP : zPS) (SG : (Nat → Int32)) (a1 : Int32) : Option (Int32 × ((Nat → Int32))) := kO (SP.1 = 5) (kC (f_X4_begins SP SG 60) (fun S_1 => kL (a1 - (SP.2.1)) (fun v4 => kD (f_X4_tells SP S_1 v4) (fun r5 S_6 => some (r5, S_6)))))
def rm_X0_tells : Room := { frames := 6, cells := 0, slots := 0, locals := 127 }
set_option maxHeartbeats 4000000 in
set_option maxRecDepth 100000 in
theorem c_X0_tells {l : Launch} {G : va_G} {ct : Nat → ClassId} {gG : Nat} {aP : Nat} {SP : zPS} {SG : (Nat → Int32)} {a1 : Int32} {r0 : Int32} {OG : (Nat → Int32)} (hf : f_X0_tells SP SG a1 = some (r0, OG)) : zC l yX0_tells cX0_tells 2 (some .int) rm_X0_tells G ct [.ref aP, .int a1] [wPa gG aP SP, wA gG 21 ct SG] [wPa gG aP SP, wA gG 21 ct OG] (some (.int r0)) 0 0 := by
  refine z_enter (own := RX0) (lv := [(0, .ref aP), (1, .int a1)]) (by decide) rfl (Nat.le_of_ble_eq_true rfl) rfl ?_
  intro p e s m args below meth c A E hr hnm
  unfold f_X0_tells at hf
  obtain ⟨hk, hf⟩ := kO_e hf
  refine z_aload_n (pc := 0) (k0 := 0) E dX0_tells_0 rfl rfl ?_
  refine z_bipush (pc := 1) (v := 60) E dX0_tells_1 (by decide) ?_
  obtain ⟨S_1, h2, hf⟩ := kC_e hf
  have K3 : zJ p l e rm_X0_tells s m args below meth c (zQ G ct (some (.int r0)) [wPa gG aP SP, wA gG 21 ct OG] A below args s 0 0) A G 2 0 0 [wPa gG aP SP, wA gG 21 ct S_1] [(0, .ref aP), (1, .int a1)] 6 [] := by
    refine z_aload_n (pc := 6) (k0 := 0) E dX0_tells_6 rfl rfl ?_
    refine z_iload_n (pc := 7) (k0 := 1) E dX0_tells_7 rfl rfl ?_
    refine z_aload_n (pc := 8) (k0 := 0) E dX0_tells_8 rfl rfl ?_
    refine gP_1 (pc := 9) (i := 0) E rfl wd_47_15 (fun x h => u_same (E.2.2.2.2.1 _ wd_47_16) x h) dX0_tells_9 ?_
    obtain ⟨v4, e_v4, hf⟩ := kL_e hf
    refine z_isub (pc := 12) (v := v4) E dX0_tells_12 e_v4 ?_
    obtain ⟨r5, S_6, h7, hf⟩ := kD_e hf
    refine z_callSX (x := ⟨"MoreStory$Strict", "tells", "(I)I"⟩) (owner := "MoreStory$Parent") (pc := 13) (is := [0, 1]) (n := 1) (As := [.int v4]) (st := []) (st' := [.int r5]) (C2 := [wPa gG aP SP, wA gG 21 ct S_6]) E (c_X4_tells (l := l) (G := G) (ct := ct) (gG := gG) (aP := aP) h7) wd_53_5 wd_53_6 wd_12_2 wd_12_9 wd_47_22 wd_8_22 wd_47_20 ⟨by decide, by decide +kernel⟩ ⟨Nat.le_of_ble_eq_true rfl, Nat.le_of_ble_eq_true rfl, Nat.le_of_ble_eq_true rfl, Nat.le_of_ble_eq_true rfl⟩ rfl rfl rfl (by decide) rfl rfl ⟨0, 0, _, _, _, _, rfl, rfl, (pcast (v := SP) E.2.2.2.2.1 E.2.2.2.2.2.1).choose_spec.1⟩ rfl (Nat.le_of_ble_eq_true rfl) dX0_tells_13 rfl rfl ?_
    show zJ p l e rm_X0_tells s m args below meth c (zQ G ct (some (.int r0)) [wPa gG aP SP, wA gG 21 ct OG] A below args s 0 0) A G 2 0 0 [wPa gG aP SP, wA gG 21 ct S_6] [(0, .ref aP), (1, .int a1)] 16 [.int r5]
    cases hf
    exact z_iret E hr dX0_tells_16
  · refine z_callU (x := ⟨"MoreStory$Fair", "begins", "(I)V"⟩) (owner := "MoreStory$Parent") (pc := 3) (is := [0, 1]) (n := 1) (As := [.int 60]) (st := []) (st' := []) (C2 := [wPa gG aP SP, wA gG 21 ct S_1]) E (c_X4_begins (l := l) (G := G) (ct := ct) (gG := gG) (aP := aP) h2) wd_47_17 wd_47_18 wd_47_19 wd_44_18 wd_8_22 wd_44_19 rfl ⟨by decide, by decide, by decide +kernel⟩ ⟨Nat.le_of_ble_eq_true rfl, Nat.le_of_ble_eq_true rfl, Nat.le_of_ble_eq_true rfl, Nat.le_of_ble_eq_true rfl⟩ rfl rfl rfl (by decide) rfl rfl (zrP0 hk (j := 0) rfl) rfl (Nat.le_of_ble_eq_true rfl) dX0_tells_3 rfl rfl ?_
    exact K3
noncomputable def f_X1_copy_l87 (N : Nat) (SK : zHS) (SD : (List (Nat × zPS))) : Nat → zHS → Int32 → Option zHS := fun n => Nat.rec (motive := fun _ => zHS → Int32 → Option zHS) (fun _ _ => none) (fun _ ih SH x2 => kB (8 ≤ x2) (kL (hSA SH 6 (va_cpy (SK.2.1 6) (SH.2.1 6) (Int32.toNatClampNeg 0) (Int32.toNatClampNeg 0) (Int32.toNatClampNeg 12))) (fun SH_12 => kL (hSI SH_12 7 (SK.1 7)) (fun SH_13 => kL (hSI SH_13 8 (SK.1 8)) (fun SH_14 => kL (hSI SH_14 9 (SK.1 9)) (fun SH_15 => kL (hSI SH_15 10 (SK.1 10)) (fun SH_16 => kL (hSI SH_16 11 (SK.1 11)) (fun SH_17 => kL (hSI SH_17 12 (SK.1 12)) (fun SH_18 => kL (hSI SH_18 13 (SK.1 13)) (fun SH_19 => kL (hSI SH_19 14 (SK.1 14)) (fun SH_20 => kL (hSI SH_20 15 (SK.1 15)) (fun SH_21 => kL (hSI SH_21 16 (SK.1 16)) (fun SH_22 => kL (hSH SH_22 (SK.2.2.2)) (fun SH_23 => kL (hSI SH_23 18 (SK.1 18)) (fun SH_24 => kL (hSI SH_24 19 (SK.1 19)) (fun SH_25 => some (SH_25)))))))))))))))) (kO (¬ (x2 < 0 ∨ 8 ≤ Int32.toNatClampNeg x2)) (kO (¬ (x2 < 0 ∨ 8 ≤ Int32.toNatClampNeg x2)) (kO (((SK.2.1 5) (Int32.toNatClampNeg x2)) = 0 ∨ ((SK.2.1 5) (Int32.toNatClampNeg x2)) = 1) (kL (hSA SH 5 (upd (SH.2.1 5) (Int32.toNatClampNeg x2) ((SK.2.1 5) (Int32.toNatClampNeg x2)))) (fun SH_29 => kL (x2 + 1) (fun v30 => ih SH_29 v30))))))) n
theorem f_X1_copy_l87_z (N : Nat) (SK : zHS) (SD : (List (Nat × zPS))) (SH : zHS) (x2 : Int32) : f_X1_copy_l87 N SK SD 0 SH x2 = none := rfl
theorem f_X1_copy_l87_s (N : Nat) (SK : zHS) (SD : (List (Nat × zPS))) (n : Nat) (SH : zHS) (x2 : Int32) : f_X1_copy_l87 N SK SD (n + 1) SH x2 = kB (8 ≤ x2) (kL (hSA SH 6 (va_cpy (SK.2.1 6) (SH.2.1 6) (Int32.toNatClampNeg 0) (Int32.toNatClampNeg 0) (Int32.toNatClampNeg 12))) (fun SH_12 => kL (hSI SH_12 7 (SK.1 7)) (fun SH_13 => kL (hSI SH_13 8 (SK.1 8)) (fun SH_14 => kL (hSI SH_14 9 (SK.1 9)) (fun SH_15 => kL (hSI SH_15 10 (SK.1 10)) (fun SH_16 => kL (hSI SH_16 11 (SK.1 11)) (fun SH_17 => kL (hSI SH_17 12 (SK.1 12)) (fun SH_18 => kL (hSI SH_18 13 (SK.1 13)) (fun SH_19 => kL (hSI SH_19 14 (SK.1 14)) (fun SH_20 => kL (hSI SH_20 15 (SK.1 15)) (fun SH_21 => kL (hSI SH_21 16 (SK.1 16)) (fun SH_22 => kL (hSH SH_22 (SK.2.2.2)) (fun SH_23 => kL (hSI SH_23 18 (SK.1 18)) (fun SH_24 => kL (hSI SH_24 19 (SK.1 19)) (fun SH_25 => some (SH_25)))))))))))))))) (kO (¬ (x2 < 0 ∨ 8 ≤ Int32.toNatClampNeg x2)) (kO (¬ (x2 < 0 ∨ 8 ≤ Int32.toNatClampNeg x2)) (kO (((SK.2.1 5) (Int32.toNatClampNeg x2)) = 0 ∨ ((SK.2.1 5) (Int32.toNatClampNeg x2)) = 1) (kL (hSA SH 5 (upd (SH.2.1 5) (Int32.toNatClampNeg x2) ((SK.2.1 5) (Int32.toNatClampNeg x2)))) (fun SH_29 => kL (x2 + 1) (fun v30 => (f_X1_copy_l87 N SK SD n) SH_29 v30)))))) := rfl
noncomputable def f_X1_copy_l47 (N : Nat) (SK : zHS) (SD : (List (Nat × zPS))) : Nat → zHS → Int32 → Option zHS := fun n => Nat.rec (motive := fun _ => zHS → Int32 → Option zHS) (fun _ _ => none) (fun _ ih SH x2 => kB (4 ≤ x2) (kL (hSA SH 4 (va_cpy (SK.2.1 4) (SH.2.1 4) (Int32.toNatClampNeg 0) (Int32.toNatClampNeg 0) (Int32.toNatClampNeg 16))) (fun SH_5 => f_X1_copy_l87 N SK SD N SH_5 0)) (kO (¬ (x2 < 0 ∨ 4 ≤ Int32.toNatClampNeg x2)) (kO (¬ (x2 < 0 ∨ 4 ≤ Int32.toNatClampNeg x2)) (kO (pok SD (SK.2.2.1 (Int32.toNatClampNeg x2)) = true) (kL (hSP SH (va_up SH.2.2.1 (Int32.toNatClampNeg x2) (SK.2.2.1 (Int32.toNatClampNeg x2)))) (fun SH_9 => kL (x2 + 1) (fun v10 => ih SH_9 v10))))))) n
theorem f_X1_copy_l47_z (N : Nat) (SK : zHS) (SD : (List (Nat × zPS))) (SH : zHS) (x2 : Int32) : f_X1_copy_l47 N SK SD 0 SH x2 = none := rfl
theorem f_X1_copy_l47_s (N : Nat) (SK : zHS) (SD : (List (Nat × zPS))) (n : Nat) (SH : zHS) (x2 : Int32) : f_X1_copy_l47 N SK SD (n + 1) SH x2 = kB (4 ≤ x2) (kL (hSA SH 4 (va_cpy (SK.2.1 4) (SH.2.1 4) (Int32.toNatClampNeg 0) (Int32.toNatClampNeg 0) (Int32.toNatClampNeg 16))) (fun SH_5 => f_X1_copy_l87 N SK SD N SH_5 0)) (kO (¬ (x2 < 0 ∨ 4 ≤ Int32.toNatClampNeg x2)) (kO (¬ (x2 < 0 ∨ 4 ≤ Int32.toNatClampNeg x2)) (kO (pok SD (SK.2.2.1 (Int32.toNatClampNeg x2)) = true) (kL (hSP SH (va_up SH.2.2.1 (Int32.toNatClampNeg x2) (SK.2.2.1 (Int32.toNatClampNeg x2)))) (fun SH_9 => kL (x2 + 1) (fun v10 => (f_X1_copy_l47 N SK SD n) SH_9 v10)))))) := rfl
noncomputable def f_X1_copy (N : Nat) (SH : zHS) (SK : zHS) (SD : (List (Nat × zPS))) : Option zHS := kL (hSA SH 0 (va_cpy (SK.2.1 0) (SH.2.1 0) (Int32.toNatClampNeg 0) (Int32.toNatClampNeg 0) (Int32.toNatClampNeg 7))) (fun SH_1 => kL (hSA SH_1 1 (va_cpy (SK.2.1 1) (SH_1.2.1 1) (Int32.toNatClampNeg 0) (Int32.toNatClampNeg 0) (Int32.toNatClampNeg 7))) (fun SH_2 => kL (hSA SH_2 2 (va_cpy (SK.2.1 2) (SH_2.2.1 2) (Int32.toNatClampNeg 0) (Int32.toNatClampNeg 0) (Int32.toNatClampNeg 7))) (fun SH_3 => f_X1_copy_l47 N SK SD N SH_3 0)))
theorem wv_X1_copy : zWV RX1 yX1_copy cX1_copy 3 none 1 := ⟨wd_33_1, wd_33_2, wd_1_15, wd_33_3, by decide +kernel⟩
def rm_X1_copy : Room := { frames := 1, cells := 0, slots := 0, locals := 100 }
set_option maxHeartbeats 4000000 in
set_option maxRecDepth 100000 in
theorem c_X1_copy {l : Launch} {G : va_G} {ct : Nat → ClassId} {aH : Nat → Nat} {aK : Nat → Nat} {gG : Nat} {N : Nat} {SH : zHS} {SK : zHS} {SD : (List (Nat × zPS))} {OH : zHS} (hf : f_X1_copy N SH SK SD = some OH) : zC l yX1_copy cX1_copy 3 none rm_X1_copy G ct [.ref (aH 200), .ref (aK 200)] [wH aH ct SH, wH aK ct SK, wDp gG SD] [wH aH ct OH, wH aK ct SK, wDp gG SD] none 0 0 := by
  refine z_enter (own := RX1) (lv := [(0, .ref (aH 200)), (1, .ref (aK 200))]) (by decide) rfl (Nat.le_of_ble_eq_true rfl) rfl ?_
  intro p e s m args below meth c A E hr hnm
  have L87 : ∀ (n87 : Nat) (SH : zHS) (x2 : Int32), f_X1_copy_l87 N SK SD n87 SH x2 = some OH → zJ p l e rm_X1_copy s m args below meth c (zQ G ct none [wH aH ct OH, wH aK ct SK, wDp gG SD] A below args s 0 0) A G 3 0 0 [wH aH ct SH, wH aK ct SK, wDp gG SD] [(0, .ref (aH 200)), (1, .ref (aK 200)), (2, .int x2)] 87 [] := by
    intro n87
    induction n87 with
    | zero =>
      intro SH x2 hf
      rw [f_X1_copy_l87_z] at hf
      cases hf
    | succ n87 ih87 =>
      intro SH x2 hf
      rw [f_X1_copy_l87_s] at hf
      refine z_iload_n (pc := 87) (k0 := 2) E dX1_copy_87 rfl rfl ?_
      refine z_bipush (pc := 88) (v := 8) E dX1_copy_88 (by decide) ?_
      refine z_icmp_ge (pc := 90) (tgt := 111) E dX1_copy_90 (by decide) (fun c11 => ?_) (fun c11 => ?_)
      · have hf := kB_t hf c11
        refine z_aload_n (pc := 111) (k0 := 1) E dX1_copy_111 rfl rfl ?_
        refine gH_6 (pc := 112) (i := 1) E rfl wd_2_22 dX1_copy_112 ?_
        refine z_iconst (pc := 115) (v := 0) E dX1_copy_115 (by decide) ?_
        refine z_aload_n (pc := 116) (k0 := 0) E dX1_copy_116 rfl rfl ?_
        refine gH_6 (pc := 117) (i := 0) E rfl wd_2_22 dX1_copy_117 ?_
        refine z_iconst (pc := 120) (v := 0) E dX1_copy_120 (by decide) ?_
        refine z_bipush (pc := 121) (v := 12) E dX1_copy_121 (by decide) ?_
        obtain ⟨SH_12, e_SH_12, hf⟩ := kL_e hf
        refine z_copyi (pc := 123) (i0 := 1) (j0 := 7) (i1 := 0) (j1 := 7) (w2 := wH aH ct SH_12) E wd_33_4 wd_25_10 wd_25_11 wd_25_12 rfl rfl rfl rfl (by decide) (by decide) (by decide) (by decide) (by decide) (by rw [e_SH_12]; rfl) ⟨Nat.le_of_ble_eq_true rfl, Nat.le_of_ble_eq_true rfl⟩ dX1_copy_123 ?_
        show zJ p l e rm_X1_copy s m args below meth c (zQ G ct none [wH aH ct OH, wH aK ct SK, wDp gG SD] A below args s 0 0) A G 3 0 0 [wH aH ct SH_12, wH aK ct SK, wDp gG SD] [(0, .ref (aH 200)), (1, .ref (aK 200)), (2, .int x2)] 126 []
        refine z_aload_n (pc := 126) (k0 := 0) E dX1_copy_126 rfl rfl ?_
        refine z_aload_n (pc := 127) (k0 := 1) E dX1_copy_127 rfl rfl ?_
        refine gH_7 (pc := 128) (i := 1) E rfl wd_10_19 dX1_copy_128 ?_
        obtain ⟨SH_13, e_SH_13, hf⟩ := kL_e hf
        refine pH_7 (pc := 131) (i := 0) (S1 := SH_13) E rfl e_SH_13 wd_10_19 dX1_copy_131 ?_
        show zJ p l e rm_X1_copy s m args below meth c (zQ G ct none [wH aH ct OH, wH aK ct SK, wDp gG SD] A below args s 0 0) A G 3 0 0 [wH aH ct SH_13, wH aK ct SK, wDp gG SD] [(0, .ref (aH 200)), (1, .ref (aK 200)), (2, .int x2)] 134 []
        refine z_aload_n (pc := 134) (k0 := 0) E dX1_copy_134 rfl rfl ?_
        refine z_aload_n (pc := 135) (k0 := 1) E dX1_copy_135 rfl rfl ?_
        refine gH_8 (pc := 136) (i := 1) E rfl wd_11_14 dX1_copy_136 ?_
        obtain ⟨SH_14, e_SH_14, hf⟩ := kL_e hf
        refine pH_8 (pc := 139) (i := 0) (S1 := SH_14) E rfl e_SH_14 wd_11_14 dX1_copy_139 ?_
        show zJ p l e rm_X1_copy s m args below meth c (zQ G ct none [wH aH ct OH, wH aK ct SK, wDp gG SD] A below args s 0 0) A G 3 0 0 [wH aH ct SH_14, wH aK ct SK, wDp gG SD] [(0, .ref (aH 200)), (1, .ref (aK 200)), (2, .int x2)] 142 []
        refine z_aload_n (pc := 142) (k0 := 0) E dX1_copy_142 rfl rfl ?_
        refine z_aload_n (pc := 143) (k0 := 1) E dX1_copy_143 rfl rfl ?_
        refine gH_9 (pc := 144) (i := 1) E rfl wd_33_5 dX1_copy_144 ?_
        obtain ⟨SH_15, e_SH_15, hf⟩ := kL_e hf
        refine pH_9 (pc := 147) (i := 0) (S1 := SH_15) E rfl e_SH_15 wd_33_5 dX1_copy_147 ?_
        show zJ p l e rm_X1_copy s m args below meth c (zQ G ct none [wH aH ct OH, wH aK ct SK, wDp gG SD] A below args s 0 0) A G 3 0 0 [wH aH ct SH_15, wH aK ct SK, wDp gG SD] [(0, .ref (aH 200)), (1, .ref (aK 200)), (2, .int x2)] 150 []
        refine z_aload_n (pc := 150) (k0 := 0) E dX1_copy_150 rfl rfl ?_
        refine z_aload_n (pc := 151) (k0 := 1) E dX1_copy_151 rfl rfl ?_
        refine gH_10 (pc := 152) (i := 1) E rfl wd_33_6 dX1_copy_152 ?_
        obtain ⟨SH_16, e_SH_16, hf⟩ := kL_e hf
        refine pH_10 (pc := 155) (i := 0) (S1 := SH_16) E rfl e_SH_16 wd_33_6 dX1_copy_155 ?_
        show zJ p l e rm_X1_copy s m args below meth c (zQ G ct none [wH aH ct OH, wH aK ct SK, wDp gG SD] A below args s 0 0) A G 3 0 0 [wH aH ct SH_16, wH aK ct SK, wDp gG SD] [(0, .ref (aH 200)), (1, .ref (aK 200)), (2, .int x2)] 158 []
        refine z_aload_n (pc := 158) (k0 := 0) E dX1_copy_158 rfl rfl ?_
        refine z_aload_n (pc := 159) (k0 := 1) E dX1_copy_159 rfl rfl ?_
        refine gH_11 (pc := 160) (i := 1) E rfl wd_29_6 dX1_copy_160 ?_
        obtain ⟨SH_17, e_SH_17, hf⟩ := kL_e hf
        refine pH_11 (pc := 163) (i := 0) (S1 := SH_17) E rfl e_SH_17 wd_29_6 dX1_copy_163 ?_
        show zJ p l e rm_X1_copy s m args below meth c (zQ G ct none [wH aH ct OH, wH aK ct SK, wDp gG SD] A below args s 0 0) A G 3 0 0 [wH aH ct SH_17, wH aK ct SK, wDp gG SD] [(0, .ref (aH 200)), (1, .ref (aK 200)), (2, .int x2)] 166 []
        refine z_aload_n (pc := 166) (k0 := 0) E dX1_copy_166 rfl rfl ?_
        refine z_aload_n (pc := 167) (k0 := 1) E dX1_copy_167 rfl rfl ?_
        refine gH_12 (pc := 168) (i := 1) E rfl wd_29_5 dX1_copy_168 ?_
        obtain ⟨SH_18, e_SH_18, hf⟩ := kL_e hf
        refine pH_12 (pc := 171) (i := 0) (S1 := SH_18) E rfl e_SH_18 wd_29_5 dX1_copy_171 ?_
        show zJ p l e rm_X1_copy s m args below meth c (zQ G ct none [wH aH ct OH, wH aK ct SK, wDp gG SD] A below args s 0 0) A G 3 0 0 [wH aH ct SH_18, wH aK ct SK, wDp gG SD] [(0, .ref (aH 200)), (1, .ref (aK 200)), (2, .int x2)] 174 []
        refine z_aload_n (pc := 174) (k0 := 0) E dX1_copy_174 rfl rfl ?_
        refine z_aload_n (pc := 175) (k0 := 1) E dX1_copy_175 rfl rfl ?_
        refine gH_13 (pc := 176) (i := 1) E rfl wd_30_3 dX1_copy_176 ?_
        obtain ⟨SH_19, e_SH_19, hf⟩ := kL_e hf
        refine pH_13 (pc := 179) (i := 0) (S1 := SH_19) E rfl e_SH_19 wd_30_3 dX1_copy_179 ?_
        show zJ p l e rm_X1_copy s m args below meth c (zQ G ct none [wH aH ct OH, wH aK ct SK, wDp gG SD] A below args s 0 0) A G 3 0 0 [wH aH ct SH_19, wH aK ct SK, wDp gG SD] [(0, .ref (aH 200)), (1, .ref (aK 200)), (2, .int x2)] 182 []
        refine z_aload_n (pc := 182) (k0 := 0) E dX1_copy_182 rfl rfl ?_
        refine z_aload_n (pc := 183) (k0 := 1) E dX1_copy_183 rfl rfl ?_
        refine gH_14 (pc := 184) (i := 1) E rfl wd_30_4 dX1_copy_184 ?_
        obtain ⟨SH_20, e_SH_20, hf⟩ := kL_e hf
        refine pH_14 (pc := 187) (i := 0) (S1 := SH_20) E rfl e_SH_20 wd_30_4 dX1_copy_187 ?_
        show zJ p l e rm_X1_copy s m args below meth c (zQ G ct none [wH aH ct OH, wH aK ct SK, wDp gG SD] A below args s 0 0) A G 3 0 0 [wH aH ct SH_20, wH aK ct SK, wDp gG SD] [(0, .ref (aH 200)), (1, .ref (aK 200)), (2, .int x2)] 190 []
        refine z_aload_n (pc := 190) (k0 := 0) E dX1_copy_190 rfl rfl ?_
        refine z_aload_n (pc := 191) (k0 := 1) E dX1_copy_191 rfl rfl ?_
        refine gH_15 (pc := 192) (i := 1) E rfl wd_31_12 dX1_copy_192 ?_
        obtain ⟨SH_21, e_SH_21, hf⟩ := kL_e hf
        refine pH_15 (pc := 195) (i := 0) (S1 := SH_21) E rfl e_SH_21 wd_31_12 dX1_copy_195 ?_
        show zJ p l e rm_X1_copy s m args below meth c (zQ G ct none [wH aH ct OH, wH aK ct SK, wDp gG SD] A below args s 0 0) A G 3 0 0 [wH aH ct SH_21, wH aK ct SK, wDp gG SD] [(0, .ref (aH 200)), (1, .ref (aK 200)), (2, .int x2)] 198 []
        refine z_aload_n (pc := 198) (k0 := 0) E dX1_copy_198 rfl rfl ?_
        refine z_aload_n (pc := 199) (k0 := 1) E dX1_copy_199 rfl rfl ?_
        refine gH_16 (pc := 200) (i := 1) E rfl wd_31_13 dX1_copy_200 ?_
        obtain ⟨SH_22, e_SH_22, hf⟩ := kL_e hf
        refine pH_16 (pc := 203) (i := 0) (S1 := SH_22) E rfl e_SH_22 wd_31_13 dX1_copy_203 ?_
        show zJ p l e rm_X1_copy s m args below meth c (zQ G ct none [wH aH ct OH, wH aK ct SK, wDp gG SD] A below args s 0 0) A G 3 0 0 [wH aH ct SH_22, wH aK ct SK, wDp gG SD] [(0, .ref (aH 200)), (1, .ref (aK 200)), (2, .int x2)] 206 []
        refine z_aload_n (pc := 206) (k0 := 0) E dX1_copy_206 rfl rfl ?_
        refine z_aload_n (pc := 207) (k0 := 1) E dX1_copy_207 rfl rfl ?_
        refine gH_17 (pc := 208) (i := 1) E rfl wd_14_7 dX1_copy_208 ?_
        obtain ⟨SH_23, e_SH_23, hf⟩ := kL_e hf
        refine pH_17 (pc := 211) (i := 0) (x := (SK.2.2.2)) (S1 := SH_23) E rfl e_SH_23 wd_14_7 dX1_copy_211 ?_
        show zJ p l e rm_X1_copy s m args below meth c (zQ G ct none [wH aH ct OH, wH aK ct SK, wDp gG SD] A below args s 0 0) A G 3 0 0 [wH aH ct SH_23, wH aK ct SK, wDp gG SD] [(0, .ref (aH 200)), (1, .ref (aK 200)), (2, .int x2)] 214 []
        refine z_aload_n (pc := 214) (k0 := 0) E dX1_copy_214 rfl rfl ?_
        refine z_aload_n (pc := 215) (k0 := 1) E dX1_copy_215 rfl rfl ?_
        refine gH_18 (pc := 216) (i := 1) E rfl wd_2_23 dX1_copy_216 ?_
        obtain ⟨SH_24, e_SH_24, hf⟩ := kL_e hf
        refine pH_18 (pc := 219) (i := 0) (S1 := SH_24) E rfl e_SH_24 wd_2_23 dX1_copy_219 ?_
        show zJ p l e rm_X1_copy s m args below meth c (zQ G ct none [wH aH ct OH, wH aK ct SK, wDp gG SD] A below args s 0 0) A G 3 0 0 [wH aH ct SH_24, wH aK ct SK, wDp gG SD] [(0, .ref (aH 200)), (1, .ref (aK 200)), (2, .int x2)] 222 []
        refine z_aload_n (pc := 222) (k0 := 0) E dX1_copy_222 rfl rfl ?_
        refine z_aload_n (pc := 223) (k0 := 1) E dX1_copy_223 rfl rfl ?_
        refine gH_19 (pc := 224) (i := 1) E rfl wd_3_0 dX1_copy_224 ?_
        obtain ⟨SH_25, e_SH_25, hf⟩ := kL_e hf
        refine pH_19 (pc := 227) (i := 0) (S1 := SH_25) E rfl e_SH_25 wd_3_0 dX1_copy_227 ?_
        show zJ p l e rm_X1_copy s m args below meth c (zQ G ct none [wH aH ct OH, wH aK ct SK, wDp gG SD] A below args s 0 0) A G 3 0 0 [wH aH ct SH_25, wH aK ct SK, wDp gG SD] [(0, .ref (aH 200)), (1, .ref (aK 200)), (2, .int x2)] 230 []
        cases hf
        exact z_vret E hr dX1_copy_230
      · have hf := kB_f hf c11
        refine z_aload_n (pc := 93) (k0 := 0) E dX1_copy_93 rfl rfl ?_
        refine gH_5 (pc := 94) (i := 0) E rfl wd_2_21 dX1_copy_94 ?_
        refine z_iload_n (pc := 97) (k0 := 2) E dX1_copy_97 rfl rfl ?_
        refine z_aload_n (pc := 98) (k0 := 1) E dX1_copy_98 rfl rfl ?_
        refine gH_5 (pc := 99) (i := 1) E rfl wd_2_21 dX1_copy_99 ?_
        refine z_iload_n (pc := 102) (k0 := 2) E dX1_copy_102 rfl rfl ?_
        obtain ⟨c26, hf⟩ := kO_e hf
        refine lH_5 (pc := 103) (i := 1) E rfl c26 dX1_copy_103 ?_
        obtain ⟨c27, hf⟩ := kO_e hf
        obtain ⟨c28, hf⟩ := kO_e hf
        obtain ⟨SH_29, e_SH_29, hf⟩ := kL_e hf
        refine sH_5 (pc := 104) (i := 0) (S1 := SH_29) E rfl c27 c28 e_SH_29 dX1_copy_104 ?_
        show zJ p l e rm_X1_copy s m args below meth c (zQ G ct none [wH aH ct OH, wH aK ct SK, wDp gG SD] A below args s 0 0) A G 3 0 0 [wH aH ct SH_29, wH aK ct SK, wDp gG SD] [(0, .ref (aH 200)), (1, .ref (aK 200)), (2, .int x2)] 105 []
        obtain ⟨v30, e_v30, hf⟩ := kL_e hf
        refine z_iinc (pc := 105) (k0 := 2) (v := v30) (lv' := [(2, .int v30), (0, .ref (aH 200)), (1, .ref (aK 200))]) E dX1_copy_105 rfl e_v30 (by decide) rfl ?_
        refine z_goto (pc := 108) (tgt := 87) E dX1_copy_108 (by decide) ?_
        refine z_sub [1, 2, 0] (lv' := [(0, .ref (aH 200)), (1, .ref (aK 200)), (2, .int v30)]) rfl ?_
        exact ih87 SH_29 v30 hf
  have L47 : ∀ (n47 : Nat) (SH : zHS) (x2 : Int32), f_X1_copy_l47 N SK SD n47 SH x2 = some OH → zJ p l e rm_X1_copy s m args below meth c (zQ G ct none [wH aH ct OH, wH aK ct SK, wDp gG SD] A below args s 0 0) A G 3 0 0 [wH aH ct SH, wH aK ct SK, wDp gG SD] [(0, .ref (aH 200)), (1, .ref (aK 200)), (2, .int x2)] 47 [] := by
    intro n47
    induction n47 with
    | zero =>
      intro SH x2 hf
      rw [f_X1_copy_l47_z] at hf
      cases hf
    | succ n47 ih47 =>
      intro SH x2 hf
      rw [f_X1_copy_l47_s] at hf
      refine z_iload_n (pc := 47) (k0 := 2) E dX1_copy_47 rfl rfl ?_
      refine z_iconst (pc := 48) (v := 4) E dX1_copy_48 (by decide) ?_
      refine z_icmp_ge (pc := 49) (tgt := 70) E dX1_copy_49 (by decide) (fun c4 => ?_) (fun c4 => ?_)
      · have hf := kB_t hf c4
        refine z_aload_n (pc := 70) (k0 := 1) E dX1_copy_70 rfl rfl ?_
        refine gH_4 (pc := 71) (i := 1) E rfl wd_2_19 dX1_copy_71 ?_
        refine z_iconst (pc := 74) (v := 0) E dX1_copy_74 (by decide) ?_
        refine z_aload_n (pc := 75) (k0 := 0) E dX1_copy_75 rfl rfl ?_
        refine gH_4 (pc := 76) (i := 0) E rfl wd_2_19 dX1_copy_76 ?_
        refine z_iconst (pc := 79) (v := 0) E dX1_copy_79 (by decide) ?_
        refine z_bipush (pc := 80) (v := 16) E dX1_copy_80 (by decide) ?_
        obtain ⟨SH_5, e_SH_5, hf⟩ := kL_e hf
        refine z_copyi (pc := 82) (i0 := 1) (j0 := 5) (i1 := 0) (j1 := 5) (w2 := wH aH ct SH_5) E wd_33_4 wd_25_10 wd_25_11 wd_25_12 rfl rfl rfl rfl (by decide) (by decide) (by decide) (by decide) (by decide) (by rw [e_SH_5]; rfl) ⟨Nat.le_of_ble_eq_true rfl, Nat.le_of_ble_eq_true rfl⟩ dX1_copy_82 ?_
        show zJ p l e rm_X1_copy s m args below meth c (zQ G ct none [wH aH ct OH, wH aK ct SK, wDp gG SD] A below args s 0 0) A G 3 0 0 [wH aH ct SH_5, wH aK ct SK, wDp gG SD] [(0, .ref (aH 200)), (1, .ref (aK 200)), (2, .int x2)] 85 []
        refine z_iconst (pc := 85) (v := 0) E dX1_copy_85 (by decide) ?_
        refine z_istore_n (pc := 86) (lv' := [(2, .int 0), (0, .ref (aH 200)), (1, .ref (aK 200))]) E dX1_copy_86 rfl (by decide) rfl ?_
        refine z_sub [1, 2, 0] (lv' := [(0, .ref (aH 200)), (1, .ref (aK 200)), (2, .int 0)]) rfl ?_
        exact L87 N SH_5 0 hf
      · have hf := kB_f hf c4
        refine z_aload_n (pc := 52) (k0 := 0) E dX1_copy_52 rfl rfl ?_
        refine gH_3 (pc := 53) (i := 0) E rfl wd_2_18 dX1_copy_53 ?_
        refine z_iload_n (pc := 56) (k0 := 2) E dX1_copy_56 rfl rfl ?_
        refine z_aload_n (pc := 57) (k0 := 1) E dX1_copy_57 rfl rfl ?_
        refine gH_3 (pc := 58) (i := 1) E rfl wd_2_18 dX1_copy_58 ?_
        refine z_iload_n (pc := 61) (k0 := 2) E dX1_copy_61 rfl rfl ?_
        obtain ⟨c6, hf⟩ := kO_e hf
        refine lH_3 (pc := 62) (i := 1) E rfl c6 dX1_copy_62 ?_
        obtain ⟨c7, hf⟩ := kO_e hf
        obtain ⟨c8, hf⟩ := kO_e hf
        obtain ⟨SH_9, e_SH_9, hf⟩ := kL_e hf
        refine sH_3 (pc := 63) (i := 0) (iD := 2) (x := (SK.2.2.1 (Int32.toNatClampNeg x2))) (S1 := SH_9) E rfl rfl c8 c7 e_SH_9 dX1_copy_63 ?_
        show zJ p l e rm_X1_copy s m args below meth c (zQ G ct none [wH aH ct OH, wH aK ct SK, wDp gG SD] A below args s 0 0) A G 3 0 0 [wH aH ct SH_9, wH aK ct SK, wDp gG SD] [(0, .ref (aH 200)), (1, .ref (aK 200)), (2, .int x2)] 64 []
        obtain ⟨v10, e_v10, hf⟩ := kL_e hf
        refine z_iinc (pc := 64) (k0 := 2) (v := v10) (lv' := [(2, .int v10), (0, .ref (aH 200)), (1, .ref (aK 200))]) E dX1_copy_64 rfl e_v10 (by decide) rfl ?_
        refine z_goto (pc := 67) (tgt := 47) E dX1_copy_67 (by decide) ?_
        refine z_sub [1, 2, 0] (lv' := [(0, .ref (aH 200)), (1, .ref (aK 200)), (2, .int v10)]) rfl ?_
        exact ih47 SH_9 v10 hf
  unfold f_X1_copy at hf
  refine z_aload_n (pc := 0) (k0 := 1) E dX1_copy_0 rfl rfl ?_
  refine gH_0 (pc := 1) (i := 1) E rfl wd_2_14 dX1_copy_1 ?_
  refine z_iconst (pc := 4) (v := 0) E dX1_copy_4 (by decide) ?_
  refine z_aload_n (pc := 5) (k0 := 0) E dX1_copy_5 rfl rfl ?_
  refine gH_0 (pc := 6) (i := 0) E rfl wd_2_14 dX1_copy_6 ?_
  refine z_iconst (pc := 9) (v := 0) E dX1_copy_9 (by decide) ?_
  refine z_bipush (pc := 10) (v := 7) E dX1_copy_10 (by decide) ?_
  obtain ⟨SH_1, e_SH_1, hf⟩ := kL_e hf
  refine z_copyi (pc := 12) (i0 := 1) (j0 := 1) (i1 := 0) (j1 := 1) (w2 := wH aH ct SH_1) E wd_33_4 wd_25_10 wd_25_11 wd_25_12 rfl rfl rfl rfl (by decide) (by decide) (by decide) (by decide) (by decide) (by rw [e_SH_1]; rfl) ⟨Nat.le_of_ble_eq_true rfl, Nat.le_of_ble_eq_true rfl⟩ dX1_copy_12 ?_
  show zJ p l e rm_X1_copy s m args below meth c (zQ G ct none [wH aH ct OH, wH aK ct SK, wDp gG SD] A below args s 0 0) A G 3 0 0 [wH aH ct SH_1, wH aK ct SK, wDp gG SD] [(0, .ref (aH 200)), (1, .ref (aK 200))] 15 []
  refine z_aload_n (pc := 15) (k0 := 1) E dX1_copy_15 rfl rfl ?_
  refine gH_1 (pc := 16) (i := 1) E rfl wd_2_15 dX1_copy_16 ?_
  refine z_iconst (pc := 19) (v := 0) E dX1_copy_19 (by decide) ?_
  refine z_aload_n (pc := 20) (k0 := 0) E dX1_copy_20 rfl rfl ?_
  refine gH_1 (pc := 21) (i := 0) E rfl wd_2_15 dX1_copy_21 ?_
  refine z_iconst (pc := 24) (v := 0) E dX1_copy_24 (by decide) ?_
  refine z_bipush (pc := 25) (v := 7) E dX1_copy_25 (by decide) ?_
  obtain ⟨SH_2, e_SH_2, hf⟩ := kL_e hf
  refine z_copyi (pc := 27) (i0 := 1) (j0 := 2) (i1 := 0) (j1 := 2) (w2 := wH aH ct SH_2) E wd_33_4 wd_25_10 wd_25_11 wd_25_12 rfl rfl rfl rfl (by decide) (by decide) (by decide) (by decide) (by decide) (by rw [e_SH_2]; rfl) ⟨Nat.le_of_ble_eq_true rfl, Nat.le_of_ble_eq_true rfl⟩ dX1_copy_27 ?_
  show zJ p l e rm_X1_copy s m args below meth c (zQ G ct none [wH aH ct OH, wH aK ct SK, wDp gG SD] A below args s 0 0) A G 3 0 0 [wH aH ct SH_2, wH aK ct SK, wDp gG SD] [(0, .ref (aH 200)), (1, .ref (aK 200))] 30 []
  refine z_aload_n (pc := 30) (k0 := 1) E dX1_copy_30 rfl rfl ?_
  refine gH_2 (pc := 31) (i := 1) E rfl wd_2_16 dX1_copy_31 ?_
  refine z_iconst (pc := 34) (v := 0) E dX1_copy_34 (by decide) ?_
  refine z_aload_n (pc := 35) (k0 := 0) E dX1_copy_35 rfl rfl ?_
  refine gH_2 (pc := 36) (i := 0) E rfl wd_2_16 dX1_copy_36 ?_
  refine z_iconst (pc := 39) (v := 0) E dX1_copy_39 (by decide) ?_
  refine z_bipush (pc := 40) (v := 7) E dX1_copy_40 (by decide) ?_
  obtain ⟨SH_3, e_SH_3, hf⟩ := kL_e hf
  refine z_copyi (pc := 42) (i0 := 1) (j0 := 3) (i1 := 0) (j1 := 3) (w2 := wH aH ct SH_3) E wd_33_4 wd_25_10 wd_25_11 wd_25_12 rfl rfl rfl rfl (by decide) (by decide) (by decide) (by decide) (by decide) (by rw [e_SH_3]; rfl) ⟨Nat.le_of_ble_eq_true rfl, Nat.le_of_ble_eq_true rfl⟩ dX1_copy_42 ?_
  show zJ p l e rm_X1_copy s m args below meth c (zQ G ct none [wH aH ct OH, wH aK ct SK, wDp gG SD] A below args s 0 0) A G 3 0 0 [wH aH ct SH_3, wH aK ct SK, wDp gG SD] [(0, .ref (aH 200)), (1, .ref (aK 200))] 45 []
  refine z_iconst (pc := 45) (v := 0) E dX1_copy_45 (by decide) ?_
  refine z_istore_n (pc := 46) (lv' := [(2, .int 0), (0, .ref (aH 200)), (1, .ref (aK 200))]) E dX1_copy_46 rfl (by decide) rfl ?_
  refine z_sub [1, 2, 0] (lv' := [(0, .ref (aH 200)), (1, .ref (aK 200)), (2, .int 0)]) rfl ?_
  exact L47 N SH_3 0 hf
