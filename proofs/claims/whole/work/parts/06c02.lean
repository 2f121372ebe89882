noncomputable def f_X1_moved_b9 (N : Nat) (SH : zHS) (SD : (List (Nat × zPS))) (SE : (List ((Nat → Nat) × zQS))) (x1 : Option Nat) (x2 : Int32) (x3 : Int32) (y0 : Int32) : Option (Int32 × ((List ((Nat → Nat) × zQS)))) := kN (SH.2.2.2) (some (y0, SE)) (fun w2 => kN x1 (some (y0, SE)) (fun w4 => kC (f_X1_has SH x2) (fun r6 => kB (r6 = 0) (some (y0, SE)) (kD (hlook SE w2) (fun u9 Q10 => kC (plook SD w4) (fun pv17 => kC (f_X2_look Q10 pv17 SH x2) (fun S_22 => kL (hput SE (u9 200) S_22) (fun SE_24 => kB (x3 = 0) (kD (hlook SE_24 (u9 200)) (fun u26 Q27 => kC (f_X2_sum N Q27 1 y0) (fun r34 => some (r34, SE_24)))) (kD (hlook SE_24 (u9 200)) (fun u36 Q37 => kC (f_X2_sum N Q37 0 y0) (fun r44 => some (r44, SE_24))))))))))))
noncomputable def f_X1_moved (N : Nat) (SH : zHS) (SD : (List (Nat × zPS))) (SE : (List ((Nat → Nat) × zQS))) (a1 : Option Nat) (a2 : Int32) (a3 : Int32) : Option (Int32 × ((List ((Nat → Nat) × zQS)))) := kB (a3 = 0) (f_X1_moved_b9 N SH SD SE a1 a2 a3 2) (f_X1_moved_b9 N SH SD SE a1 a2 a3 4)
theorem wv_X1_moved : zWV RX1 yX1_moved cX1_moved 5 (some .int) 3 := ⟨wd_14_4, wd_14_5, wd_1_15, wd_14_6, by decide +kernel⟩
def rm_X1_moved : Room := { frames := 2, cells := 0, slots := 0, locals := 57 }
set_option maxHeartbeats 4000000 in
set_option maxRecDepth 100000 in
theorem c_X1_moved {l : Launch} {G : va_G} {ct : Nat → ClassId} {aH : Nat → Nat} {gG : Nat} {N : Nat} {SH : zHS} {SD : (List (Nat × zPS))} {SE : (List ((Nat → Nat) × zQS))} {a1 : Option Nat} {a2 : Int32} {a3 : Int32} {r0 : Int32} {OE : (List ((Nat → Nat) × zQS))} (hf : f_X1_moved N SH SD SE a1 a2 a3 = some (r0, OE)) : zC l yX1_moved cX1_moved 5 (some .int) rm_X1_moved G ct [.ref (aH 200), va_rf a1, .int a2, .int a3] [wH aH ct SH, wDp gG SD, wDh ct SE] [wH aH ct SH, wDp gG SD, wDh ct OE] (some (.int r0)) 0 0 := by
  refine z_enter (own := RX1) (lv := [(0, .ref (aH 200)), (1, va_rf a1), (2, .int a2), (3, .int a3)]) (by decide) rfl (by simp [lg_sl, zcat, zcr, zci, zcl]) (by simp [lv_args, zcat, zcr, zci, zcl]) ?_
  intro p e s m args below meth c A E hr hnm
  have B9 : ∀ (SE : (List ((Nat → Nat) × zQS))) (x1 : Option Nat) (x2 : Int32) (x3 : Int32) (y0 : Int32), f_X1_moved_b9 N SH SD SE x1 x2 x3 y0 = some (r0, OE) → zJ p l e rm_X1_moved s m args below meth c (zQ G ct (some (.int r0)) [wH aH ct SH, wDp gG SD, wDh ct OE] A below args s 0 0) A G 5 0 0 [wH aH ct SH, wDp gG SD, wDh ct SE] [(0, .ref (aH 200)), (1, va_rf x1), (2, .int x2), (3, .int x3)] 9 [.int y0] := by
    intro SE x1 x2 x3 y0 hf
    unfold f_X1_moved_b9 at hf
    refine z_istore (pc := 9) (lv' := [(4, .int y0), (0, .ref (aH 200)), (1, va_rf x1), (2, .int x2), (3, .int x3)]) E dX1_moved_9 (by decide) rfl ?_
    refine z_aload_n (pc := 11) (k0 := 1) E dX1_moved_11 rfl rfl ?_
    refine gH_17 (pc := 12) (i := 0) E rfl wd_14_7 dX1_moved_12 ?_
    refine z_ifnull (pc := 15) (tgt := 30) E dX1_moved_15 (by decide) (fun e3 => ?_) (fun w2 e3 => ?_)
    · have hf := kN_n hf e3
      refine z_iload (pc := 30) (k0 := 0) E dX1_moved_30 rfl ?_
      cases hf
      exact z_iret E hr dX1_moved_32
    · have hf := kN_s hf e3
      refine z_qload_n (pc := 18) (k0 := 2) E dX1_moved_18 rfl rfl ?_
      refine z_ifnull (pc := 19) (tgt := 30) E dX1_moved_19 (by decide) (fun e5 => ?_) (fun w4 e5 => ?_)
      · have hf := kN_n hf e5
        refine z_iload (pc := 30) (k0 := 0) E dX1_moved_30 rfl ?_
        cases hf
        exact z_iret E hr dX1_moved_32
      · have hf := kN_s hf e5
        have hf_e5 := hf
        subst e5
        have hf := hf_e5
        refine z_aload_n (pc := 22) (k0 := 1) E dX1_moved_22 rfl rfl ?_
        refine z_iload_n (pc := 23) (k0 := 3) E dX1_moved_23 rfl rfl ?_
        obtain ⟨r6, h7, hf⟩ := kC_e hf
        refine z_callV0 (pc := 24) (is := [0]) (n := 1) (As := [.int x2]) (st := []) (st' := [.int r6]) (C2 := [wH aH ct SH, wDp gG SD, wDh ct SE]) E (c_X1_has (l := l) (G := G) (ct := ct) (aH := aH) h7) wv_X1_has wd_14_8 ⟨Nat.le_of_ble_eq_true rfl, Nat.le_of_ble_eq_true rfl, Nat.le_of_ble_eq_true rfl, Nat.le_of_ble_eq_true rfl⟩ rfl rfl rfl (by decide) rfl rfl (zrH (j := 0) rfl) rfl (Nat.le_of_ble_eq_true rfl) dX1_moved_24 rfl rfl ?_
        refine z_if_ne (pc := 27) (tgt := 33) E dX1_moved_27 (by decide) (fun c8 => ?_) (fun c8 => ?_)
        · have hf := kB_f hf c8
          refine z_aload_n (pc := 33) (k0 := 1) E dX1_moved_33 rfl rfl ?_
          refine gH_17 (pc := 34) (i := 0) E rfl wd_14_7 dX1_moved_34 ?_
          rw [e3]
          refine z_aload_n (pc := 37) (k0 := 2) E dX1_moved_37 rfl rfl ?_
          refine z_iload_n (pc := 38) (k0 := 3) E dX1_moved_38 rfl rfl ?_
          refine z_aload_n (pc := 39) (k0 := 1) E dX1_moved_39 rfl rfl ?_
          obtain ⟨u9, Q10, hh11, hf⟩ := kD_e hf
          obtain ⟨eu12, HA13, HB14, eE15, eF16⟩ := wDh_at (ct := ct) hh11
          rw [← eu12] at e3 ⊢
          obtain ⟨pv17, hp18, hf⟩ := kC_e hf
          obtain ⟨DA19, DB20, eD21⟩ := wDp_at (g := gG) hp18
          obtain ⟨S_22, h23, hf⟩ := kC_e hf
          refine z_world (Cs' := [wH aH ct SH, DA19, wPa gG w4 pv17, DB20, HA13, wQ u9 ct Q10, HB14]) (by rw [eE15, eD21]; simp [zfl]) ?_
          refine z_callV0 (pc := 40) (is := [5, 2, 0]) (n := 3) (As := [.ref w4, .int x2, .ref (aH 200)]) (st := []) (st' := []) (C2 := [wH aH ct SH, DA19, wPa gG w4 pv17, DB20, HA13, wQ u9 ct S_22, HB14]) E (c_X2_look (l := l) (G := G) (ct := ct) (aQ := u9) (gG := gG) (aP := w4) (aH := aH) h23) wv_X2_look wd_14_9 ⟨Nat.le_of_ble_eq_true rfl, Nat.le_of_ble_eq_true rfl, Nat.le_of_ble_eq_true rfl, Nat.le_of_ble_eq_true rfl⟩ rfl rfl rfl (by decide) rfl rfl (zrQ (j := 0) rfl) rfl (Nat.le_of_ble_eq_true rfl) dX1_moved_40 rfl rfl ?_
          obtain ⟨SE_24, e_SE_24, hf⟩ := kL_e hf
          refine z_world (Cs' := [wH aH ct SH, wDp gG SD, wDh ct SE_24]) (by rw [e_SE_24, eu12, eF16, eD21]; simp [zfl]) ?_
          refine z_aload_n (pc := 43) (k0 := 1) E dX1_moved_43 rfl rfl ?_
          refine gH_17 (pc := 44) (i := 0) E rfl wd_14_7 dX1_moved_44 ?_
          rw [e3]
          refine z_iload_n (pc := 47) (k0 := 4) E dX1_moved_47 rfl rfl ?_
          refine z_if_eq (pc := 48) (tgt := 55) E dX1_moved_48 (by decide) (fun c25 => ?_) (fun c25 => ?_)
          · have hf := kB_t hf c25
            refine z_iconst (pc := 55) (v := 1) E dX1_moved_55 (by decide) ?_
            refine z_iload (pc := 56) (k0 := 0) E dX1_moved_56 rfl ?_
            obtain ⟨u26, Q27, hh28, hf⟩ := kD_e hf
            obtain ⟨eu29, HA30, HB31, eE32, eF33⟩ := wDh_at (ct := ct) hh28
            rw [← eu29] at e3 ⊢
            obtain ⟨r34, h35, hf⟩ := kC_e hf
            refine z_world (Cs' := [wH aH ct SH, wDp gG SD, HA30, wQ u26 ct Q27, HB31]) (by rw [eE32]; simp [zfl]) ?_
            refine z_callV0 (pc := 58) (is := [3]) (n := 2) (As := [.int 1, .int y0]) (st := []) (st' := [.int r34]) (C2 := [wH aH ct SH, wDp gG SD, HA30, wQ u26 ct Q27, HB31]) E (c_X2_sum (l := l) (G := G) (ct := ct) (aQ := u26) h35) wv_X2_sum wd_14_21 ⟨Nat.le_of_ble_eq_true rfl, Nat.le_of_ble_eq_true rfl, Nat.le_of_ble_eq_true rfl, Nat.le_of_ble_eq_true rfl⟩ rfl rfl rfl (by decide) rfl rfl (zrQ (j := 0) rfl) rfl (Nat.le_of_ble_eq_true rfl) dX1_moved_58 rfl rfl ?_
            refine z_world (Cs' := [wH aH ct SH, wDp gG SD, wDh ct SE_24]) (by rw [eE32]; simp [zfl]) ?_
            cases hf
            exact z_iret E hr dX1_moved_61
          · have hf := kB_f hf c25
            refine z_iconst (pc := 51) (v := 0) E dX1_moved_51 (by decide) ?_
            refine z_goto (pc := 52) (tgt := 56) E dX1_moved_52 (by decide) ?_
            refine z_iload (pc := 56) (k0 := 0) E dX1_moved_56 rfl ?_
            obtain ⟨u36, Q37, hh38, hf⟩ := kD_e hf
            obtain ⟨eu39, HA40, HB41, eE42, eF43⟩ := wDh_at (ct := ct) hh38
            rw [← eu39] at e3 ⊢
            obtain ⟨r44, h45, hf⟩ := kC_e hf
            refine z_world (Cs' := [wH aH ct SH, wDp gG SD, HA40, wQ u36 ct Q37, HB41]) (by rw [eE42]; simp [zfl]) ?_
            refine z_callV0 (pc := 58) (is := [3]) (n := 2) (As := [.int 0, .int y0]) (st := []) (st' := [.int r44]) (C2 := [wH aH ct SH, wDp gG SD, HA40, wQ u36 ct Q37, HB41]) E (c_X2_sum (l := l) (G := G) (ct := ct) (aQ := u36) h45) wv_X2_sum wd_14_21 ⟨Nat.le_of_ble_eq_true rfl, Nat.le_of_ble_eq_true rfl, Nat.le_of_ble_eq_true rfl, Nat.le_of_ble_eq_true rfl⟩ rfl rfl rfl (by decide) rfl rfl (zrQ (j := 0) rfl) rfl (Nat.le_of_ble_eq_true rfl) dX1_moved_58 rfl rfl ?_
            refine z_world (Cs' := [wH aH ct SH, wDp gG SD, wDh ct SE_24]) (by rw [eE42]; simp [zfl]) ?_
            cases hf
            exact z_iret E hr dX1_moved_61
        · have hf := kB_t hf c8
          refine z_iload (pc := 30) (k0 := 0) E dX1_moved_30 rfl ?_
          cases hf
          exact z_iret E hr dX1_moved_32
  unfold f_X1_moved at hf
  refine z_iload_n (pc := 0) (k0 := 3) E dX1_moved_0 rfl rfl ?_
  refine z_if_eq (pc := 1) (tgt := 8) E dX1_moved_1 (by decide) (fun c1 => ?_) (fun c1 => ?_)
  · have hf := kB_t hf c1
    refine z_iconst (pc := 8) (v := 2) E dX1_moved_8 (by decide) ?_
    exact B9 SE a1 a2 a3 2 hf
  · have hf := kB_f hf c1
    refine z_iconst (pc := 4) (v := 4) E dX1_moved_4 (by decide) ?_
    refine z_goto (pc := 5) (tgt := 9) E dX1_moved_5 (by decide) ?_
    exact B9 SE a1 a2 a3 4 hf
noncomputable def f_X1_pass (N : Nat) (SH : zHS) (SD : (List (Nat × zPS))) (SE : (List ((Nat → Nat) × zQS))) (a1 : Option Nat) (a2 : Int32) (a3 : Int32) : Option (zHS × ((List ((Nat → Nat) × zQS)))) := kC (f_X1_has SH a2) (fun r1 => kB (r1 = 0) (some (SH, SE)) (kD (f_X1_moved N SH SD SE a1 a2 a3) (fun r4 S_5 => kB (a3 = 0) (kL ((SH.1 11) + 1) (fun v8 => kL (hSI SH 11 v8) (fun SH_9 => kL ((SH_9.1 12) - r4) (fun v10 => kL (if v10 < 0 then 0 else v10) (fun v11 => kL (hSI SH_9 12 v11) (fun SH_12 => kL ((SH_12.1 13) + 1) (fun v13 => kL (hSI SH_12 13 v13) (fun SH_14 => some (SH_14, S_5))))))))) (kO (¬ (a2 < 0 ∨ 7 ≤ Int32.toNatClampNeg a2)) (kL ((SH.1 11) + ((SH.2.1 0) (Int32.toNatClampNeg a2))) (fun v16 => kL (hSI SH 11 v16) (fun SH_17 => kL ((SH_17.1 12) + r4) (fun v18 => kL (hSI SH_17 12 v18) (fun SH_19 => kL (hSI SH_19 13 0) (fun SH_20 => kL ((SH_20.1 14) + 1) (fun v21 => kL (hSI SH_20 14 v21) (fun SH_22 => kO (¬ (a2 < 0 ∨ 7 ≤ Int32.toNatClampNeg a2)) (kL (((SH_22.2.1 2) (Int32.toNatClampNeg a2)) + 1) (fun v24 => kL (if 999 < v24 then 999 else v24) (fun v25 => kO (¬ (a2 < 0 ∨ 7 ≤ Int32.toNatClampNeg a2)) (kL (hSA SH_22 2 (upd (SH_22.2.1 2) (Int32.toNatClampNeg a2) v25)) (fun SH_27 => some (SH_27, S_5))))))))))))))))))
theorem wv_X1_pass : zWV RX1 yX1_pass cX1_pass 5 none 3 := ⟨wd_30_0, wd_30_1, wd_1_15, wd_30_2, by decide +kernel⟩
def rm_X1_pass : Room := { frames := 3, cells := 0, slots := 0, locals := 100 }
set_option maxHeartbeats 4000000 in
set_option maxRecDepth 100000 in
theorem c_X1_pass {l : Launch} {G : va_G} {ct : Nat → ClassId} {aH : Nat → Nat} {gG : Nat} {N : Nat} {SH : zHS} {SD : (List (Nat × zPS))} {SE : (List ((Nat → Nat) × zQS))} {a1 : Option Nat} {a2 : Int32} {a3 : Int32} {OH : zHS} {OE : (List ((Nat → Nat) × zQS))} (hf : f_X1_pass N SH SD SE a1 a2 a3 = some (OH, OE)) : zC l yX1_pass cX1_pass 5 none rm_X1_pass G ct [.ref (aH 200), va_rf a1, .int a2, .int a3] [wH aH ct SH, wDp gG SD, wDh ct SE] [wH aH ct OH, wDp gG SD, wDh ct OE] none 0 0 := by
  refine z_enter (own := RX1) (lv := [(0, .ref (aH 200)), (1, va_rf a1), (2, .int a2), (3, .int a3)]) (by decide) rfl (by simp [lg_sl, zcat, zcr, zci, zcl]) (by simp [lv_args, zcat, zcr, zci, zcl]) ?_
  intro p e s m args below meth c A E hr hnm
  unfold f_X1_pass at hf
  refine z_aload_n (pc := 0) (k0 := 0) E dX1_pass_0 rfl rfl ?_
  refine z_iload_n (pc := 1) (k0 := 2) E dX1_pass_1 rfl rfl ?_
  obtain ⟨r1, h2, hf⟩ := kC_e hf
  refine z_callV0 (pc := 2) (is := [0]) (n := 1) (As := [.int a2]) (st := []) (st' := [.int r1]) (C2 := [wH aH ct SH, wDp gG SD, wDh ct SE]) E (c_X1_has (l := l) (G := G) (ct := ct) (aH := aH) h2) wv_X1_has wd_14_8 ⟨Nat.le_of_ble_eq_true rfl, Nat.le_of_ble_eq_true rfl, Nat.le_of_ble_eq_true rfl, Nat.le_of_ble_eq_true rfl⟩ rfl rfl rfl (by decide) rfl rfl (zrH (j := 0) rfl) rfl (Nat.le_of_ble_eq_true rfl) dX1_pass_2 rfl rfl ?_
  refine z_if_ne (pc := 5) (tgt := 9) E dX1_pass_5 (by decide) (fun c3 => ?_) (fun c3 => ?_)
  · have hf := kB_f hf c3
    refine z_aload_n (pc := 9) (k0 := 0) E dX1_pass_9 rfl rfl ?_
    refine z_qload_n (pc := 10) (k0 := 1) E dX1_pass_10 rfl rfl ?_
    refine z_iload_n (pc := 11) (k0 := 2) E dX1_pass_11 rfl rfl ?_
    refine z_iload_n (pc := 12) (k0 := 3) E dX1_pass_12 rfl rfl ?_
    obtain ⟨r4, S_5, h6, hf⟩ := kD_e hf
    refine z_callV0 (pc := 13) (is := [0, 1, 2]) (n := 3) (As := [va_rf a1, .int a2, .int a3]) (st := []) (st' := [.int r4]) (C2 := [wH aH ct SH, wDp gG SD, wDh ct S_5]) E (c_X1_moved (l := l) (G := G) (ct := ct) (aH := aH) (gG := gG) h6) wv_X1_moved wd_30_7 ⟨Nat.le_of_ble_eq_true rfl, Nat.le_of_ble_eq_true rfl, Nat.le_of_ble_eq_true rfl, Nat.le_of_ble_eq_true rfl⟩ rfl rfl rfl (by decide) rfl rfl (zrH (j := 0) rfl) rfl (Nat.le_of_ble_eq_true rfl) dX1_pass_13 rfl rfl ?_
    refine z_istore (pc := 16) (lv' := [(4, .int r4), (0, .ref (aH 200)), (1, va_rf a1), (2, .int a2), (3, .int a3)]) E dX1_pass_16 (by decide) rfl ?_
    refine z_iload_n (pc := 18) (k0 := 4) E dX1_pass_18 rfl rfl ?_
    refine z_if_eq (pc := 19) (tgt := 86) E dX1_pass_19 (by decide) (fun c7 => ?_) (fun c7 => ?_)
    · have hf := kB_t hf c7
      refine z_aload_n (pc := 86) (k0 := 1) E dX1_pass_86 rfl rfl ?_
      refine z_dup (pc := 87) E dX1_pass_87 rfl ?_
      refine gH_11 (pc := 88) (i := 0) E rfl wd_29_6 dX1_pass_88 ?_
      refine z_iconst (pc := 91) (v := 1) E dX1_pass_91 (by decide) ?_
      obtain ⟨v8, e_v8, hf⟩ := kL_e hf
      refine z_iadd (pc := 92) (v := v8) E dX1_pass_92 e_v8 ?_
      obtain ⟨SH_9, e_SH_9, hf⟩ := kL_e hf
      refine pH_11 (pc := 93) (i := 0) (S1 := SH_9) E rfl e_SH_9 wd_29_6 dX1_pass_93 ?_
      show zJ p l e rm_X1_pass s m args below meth c (zQ G ct none [wH aH ct OH, wDp gG SD, wDh ct OE] A below args s 0 0) A G 5 0 0 [wH aH ct SH_9, wDp gG SD, wDh ct S_5] [(4, .int r4), (0, .ref (aH 200)), (1, va_rf a1), (2, .int a2), (3, .int a3)] 96 []
      refine z_aload_n (pc := 96) (k0 := 1) E dX1_pass_96 rfl rfl ?_
      refine z_aload_n (pc := 97) (k0 := 1) E dX1_pass_97 rfl rfl ?_
      refine gH_12 (pc := 98) (i := 0) E rfl wd_29_5 dX1_pass_98 ?_
      refine z_iload (pc := 101) (k0 := 0) E dX1_pass_101 rfl ?_
      obtain ⟨v10, e_v10, hf⟩ := kL_e hf
      refine z_isub (pc := 103) (v := v10) E dX1_pass_103 e_v10 ?_
      refine z_iconst (pc := 104) (v := 0) E dX1_pass_104 (by decide) ?_
      obtain ⟨v11, e_v11, hf⟩ := kL_e hf
      refine z_mmax (pc := 105) (v := v11) E wd_30_6 wd_22_8 wd_22_9 wd_22_10 ⟨Nat.le_of_ble_eq_true rfl, Nat.le_of_ble_eq_true rfl, Nat.le_of_ble_eq_true rfl, Nat.le_of_ble_eq_true rfl⟩ e_v11 dX1_pass_105 ?_
      obtain ⟨SH_12, e_SH_12, hf⟩ := kL_e hf
      refine pH_12 (pc := 108) (i := 0) (S1 := SH_12) E rfl e_SH_12 wd_29_5 dX1_pass_108 ?_
      show zJ p l e rm_X1_pass s m args below meth c (zQ G ct none [wH aH ct OH, wDp gG SD, wDh ct OE] A below args s 0 0) A G 5 0 0 [wH aH ct SH_12, wDp gG SD, wDh ct S_5] [(4, .int r4), (0, .ref (aH 200)), (1, va_rf a1), (2, .int a2), (3, .int a3)] 111 []
      refine z_aload_n (pc := 111) (k0 := 1) E dX1_pass_111 rfl rfl ?_
      refine z_dup (pc := 112) E dX1_pass_112 rfl ?_
      refine gH_13 (pc := 113) (i := 0) E rfl wd_30_3 dX1_pass_113 ?_
      refine z_iconst (pc := 116) (v := 1) E dX1_pass_116 (by decide) ?_
      obtain ⟨v13, e_v13, hf⟩ := kL_e hf
      refine z_iadd (pc := 117) (v := v13) E dX1_pass_117 e_v13 ?_
      obtain ⟨SH_14, e_SH_14, hf⟩ := kL_e hf
      refine pH_13 (pc := 118) (i := 0) (S1 := SH_14) E rfl e_SH_14 wd_30_3 dX1_pass_118 ?_
      show zJ p l e rm_X1_pass s m args below meth c (zQ G ct none [wH aH ct OH, wDp gG SD, wDh ct OE] A below args s 0 0) A G 5 0 0 [wH aH ct SH_14, wDp gG SD, wDh ct S_5] [(4, .int r4), (0, .ref (aH 200)), (1, va_rf a1), (2, .int a2), (3, .int a3)] 121 []
      cases hf
      exact z_vret E hr dX1_pass_121
    · have hf := kB_f hf c7
      refine z_aload_n (pc := 22) (k0 := 1) E dX1_pass_22 rfl rfl ?_
      refine z_dup (pc := 23) E dX1_pass_23 rfl ?_
      refine gH_11 (pc := 24) (i := 0) E rfl wd_29_6 dX1_pass_24 ?_
      refine z_aload_n (pc := 27) (k0 := 1) E dX1_pass_27 rfl rfl ?_
      refine gH_0 (pc := 28) (i := 0) E rfl wd_2_14 dX1_pass_28 ?_
      refine z_iload_n (pc := 31) (k0 := 3) E dX1_pass_31 rfl rfl ?_
      obtain ⟨c15, hf⟩ := kO_e hf
      refine lH_0 (pc := 32) (i := 0) E rfl c15 dX1_pass_32 ?_
      obtain ⟨v16, e_v16, hf⟩ := kL_e hf
      refine z_iadd (pc := 33) (v := v16) E dX1_pass_33 e_v16 ?_
      obtain ⟨SH_17, e_SH_17, hf⟩ := kL_e hf
      refine pH_11 (pc := 34) (i := 0) (S1 := SH_17) E rfl e_SH_17 wd_29_6 dX1_pass_34 ?_
      show zJ p l e rm_X1_pass s m args below meth c (zQ G ct none [wH aH ct OH, wDp gG SD, wDh ct OE] A below args s 0 0) A G 5 0 0 [wH aH ct SH_17, wDp gG SD, wDh ct S_5] [(4, .int r4), (0, .ref (aH 200)), (1, va_rf a1), (2, .int a2), (3, .int a3)] 37 []
      refine z_aload_n (pc := 37) (k0 := 1) E dX1_pass_37 rfl rfl ?_
      refine z_dup (pc := 38) E dX1_pass_38 rfl ?_
      refine gH_12 (pc := 39) (i := 0) E rfl wd_29_5 dX1_pass_39 ?_
      refine z_iload (pc := 42) (k0 := 0) E dX1_pass_42 rfl ?_
      obtain ⟨v18, e_v18, hf⟩ := kL_e hf
      refine z_iadd (pc := 44) (v := v18) E dX1_pass_44 e_v18 ?_
      obtain ⟨SH_19, e_SH_19, hf⟩ := kL_e hf
      refine pH_12 (pc := 45) (i := 0) (S1 := SH_19) E rfl e_SH_19 wd_29_5 dX1_pass_45 ?_
      show zJ p l e rm_X1_pass s m args below meth c (zQ G ct none [wH aH ct OH, wDp gG SD, wDh ct OE] A below args s 0 0) A G 5 0 0 [wH aH ct SH_19, wDp gG SD, wDh ct S_5] [(4, .int r4), (0, .ref (aH 200)), (1, va_rf a1), (2, .int a2), (3, .int a3)] 48 []
      refine z_aload_n (pc := 48) (k0 := 1) E dX1_pass_48 rfl rfl ?_
      refine z_iconst (pc := 49) (v := 0) E dX1_pass_49 (by decide) ?_
      obtain ⟨SH_20, e_SH_20, hf⟩ := kL_e hf
      refine pH_13 (pc := 50) (i := 0) (S1 := SH_20) E rfl e_SH_20 wd_30_3 dX1_pass_50 ?_
      show zJ p l e rm_X1_pass s m args below meth c (zQ G ct none [wH aH ct OH, wDp gG SD, wDh ct OE] A below args s 0 0) A G 5 0 0 [wH aH ct SH_20, wDp gG SD, wDh ct S_5] [(4, .int r4), (0, .ref (aH 200)), (1, va_rf a1), (2, .int a2), (3, .int a3)] 53 []
      refine z_aload_n (pc := 53) (k0 := 1) E dX1_pass_53 rfl rfl ?_
      refine z_dup (pc := 54) E dX1_pass_54 rfl ?_
      refine gH_14 (pc := 55) (i := 0) E rfl wd_30_4 dX1_pass_55 ?_
      refine z_iconst (pc := 58) (v := 1) E dX1_pass_58 (by decide) ?_
      obtain ⟨v21, e_v21, hf⟩ := kL_e hf
      refine z_iadd (pc := 59) (v := v21) E dX1_pass_59 e_v21 ?_
      obtain ⟨SH_22, e_SH_22, hf⟩ := kL_e hf
      refine pH_14 (pc := 60) (i := 0) (S1 := SH_22) E rfl e_SH_22 wd_30_4 dX1_pass_60 ?_
      show zJ p l e rm_X1_pass s m args below meth c (zQ G ct none [wH aH ct OH, wDp gG SD, wDh ct OE] A below args s 0 0) A G 5 0 0 [wH aH ct SH_22, wDp gG SD, wDh ct S_5] [(4, .int r4), (0, .ref (aH 200)), (1, va_rf a1), (2, .int a2), (3, .int a3)] 63 []
      refine z_aload_n (pc := 63) (k0 := 1) E dX1_pass_63 rfl rfl ?_
      refine gH_2 (pc := 64) (i := 0) E rfl wd_2_16 dX1_pass_64 ?_
      refine z_iload_n (pc := 67) (k0 := 3) E dX1_pass_67 rfl rfl ?_
      refine z_aload_n (pc := 68) (k0 := 1) E dX1_pass_68 rfl rfl ?_
      refine gH_2 (pc := 69) (i := 0) E rfl wd_2_16 dX1_pass_69 ?_
      refine z_iload_n (pc := 72) (k0 := 3) E dX1_pass_72 rfl rfl ?_
      obtain ⟨c23, hf⟩ := kO_e hf
      refine lH_2 (pc := 73) (i := 0) E rfl c23 dX1_pass_73 ?_
      refine z_iconst (pc := 74) (v := 1) E dX1_pass_74 (by decide) ?_
      obtain ⟨v24, e_v24, hf⟩ := kL_e hf
      refine z_iadd (pc := 75) (v := v24) E dX1_pass_75 e_v24 ?_
      refine z_sipush (pc := 76) (v := 999) E dX1_pass_76 (by decide) ?_
      obtain ⟨v25, e_v25, hf⟩ := kL_e hf
      refine z_mmin (pc := 79) (v := v25) E wd_30_5 wd_22_12 wd_22_9 wd_22_13 ⟨Nat.le_of_ble_eq_true rfl, Nat.le_of_ble_eq_true rfl, Nat.le_of_ble_eq_true rfl, Nat.le_of_ble_eq_true rfl⟩ e_v25 dX1_pass_79 ?_
      obtain ⟨c26, hf⟩ := kO_e hf
      obtain ⟨SH_27, e_SH_27, hf⟩ := kL_e hf
      refine sH_2 (pc := 82) (i := 0) (S1 := SH_27) E rfl c26 e_SH_27 dX1_pass_82 ?_
      show zJ p l e rm_X1_pass s m args below meth c (zQ G ct none [wH aH ct OH, wDp gG SD, wDh ct OE] A below args s 0 0) A G 5 0 0 [wH aH ct SH_27, wDp gG SD, wDh ct S_5] [(4, .int r4), (0, .ref (aH 200)), (1, va_rf a1), (2, .int a2), (3, .int a3)] 83 []
      refine z_goto (pc := 83) (tgt := 121) E dX1_pass_83 (by decide) ?_
      cases hf
      exact z_vret E hr dX1_pass_121
  · have hf := kB_t hf c3
    cases hf
    exact z_vret E hr dX1_pass_8
noncomputable def f_X1_sleepOver (SH : zHS) : Option zHS := kL (hSI SH 11 0) (fun SH_1 => kL (hSI SH_1 12 0) (fun SH_2 => kL (hSI SH_2 13 0) (fun SH_3 => kL (hSI SH_3 14 0) (fun SH_4 => kL (hSI SH_4 15 0) (fun SH_5 => kL ((SH_5.1 16) + 1) (fun v6 => kL (hSI SH_5 16 v6) (fun SH_7 => some (SH_7))))))))
theorem wv_X1_sleepOver : zWV RX1 yX1_sleepOver cX1_sleepOver 1 none 0 := ⟨wd_31_9, wd_31_10, wd_1_15, wd_31_11, by decide +kernel⟩
def rm_X1_sleepOver : Room := { frames := 0, cells := 0, slots := 0, locals := 0 }
set_option maxHeartbeats 4000000 in
set_option maxRecDepth 100000 in
theorem c_X1_sleepOver {l : Launch} {G : va_G} {ct : Nat → ClassId} {aH : Nat → Nat} {SH : zHS} {OH : zHS} (hf : f_X1_sleepOver SH = some OH) : zC l yX1_sleepOver cX1_sleepOver 1 none rm_X1_sleepOver G ct [.ref (aH 200)] [wH aH ct SH] [wH aH ct OH] none 0 0 := by
  refine z_enter (own := RX1) (lv := [(0, .ref (aH 200))]) (by decide) rfl (Nat.le_of_ble_eq_true rfl) rfl ?_
  intro p e s m args below meth c A E hr hnm
  unfold f_X1_sleepOver at hf
  refine z_aload_n (pc := 0) (k0 := 0) E dX1_sleepOver_0 rfl rfl ?_
  refine z_iconst (pc := 1) (v := 0) E dX1_sleepOver_1 (by decide) ?_
  obtain ⟨SH_1, e_SH_1, hf⟩ := kL_e hf
  refine pH_11 (pc := 2) (i := 0) (S1 := SH_1) E rfl e_SH_1 wd_29_6 dX1_sleepOver_2 ?_
  show zJ p l e rm_X1_sleepOver s m args below meth c (zQ G ct none [wH aH ct OH] A below args s 0 0) A G 1 0 0 [wH aH ct SH_1] [(0, .ref (aH 200))] 5 []
  refine z_aload_n (pc := 5) (k0 := 0) E dX1_sleepOver_5 rfl rfl ?_
  refine z_iconst (pc := 6) (v := 0) E dX1_sleepOver_6 (by decide) ?_
  obtain ⟨SH_2, e_SH_2, hf⟩ := kL_e hf
  refine pH_12 (pc := 7) (i := 0) (S1 := SH_2) E rfl e_SH_2 wd_29_5 dX1_sleepOver_7 ?_
  show zJ p l e rm_X1_sleepOver s m args below meth c (zQ G ct none [wH aH ct OH] A below args s 0 0) A G 1 0 0 [wH aH ct SH_2] [(0, .ref (aH 200))] 10 []
  refine z_aload_n (pc := 10) (k0 := 0) E dX1_sleepOver_10 rfl rfl ?_
  refine z_iconst (pc := 11) (v := 0) E dX1_sleepOver_11 (by decide) ?_
  obtain ⟨SH_3, e_SH_3, hf⟩ := kL_e hf
  refine pH_13 (pc := 12) (i := 0) (S1 := SH_3) E rfl e_SH_3 wd_30_3 dX1_sleepOver_12 ?_
  show zJ p l e rm_X1_sleepOver s m args below meth c (zQ G ct none [wH aH ct OH] A below args s 0 0) A G 1 0 0 [wH aH ct SH_3] [(0, .ref (aH 200))] 15 []
  refine z_aload_n (pc := 15) (k0 := 0) E dX1_sleepOver_15 rfl rfl ?_
  refine z_iconst (pc := 16) (v := 0) E dX1_sleepOver_16 (by decide) ?_
  obtain ⟨SH_4, e_SH_4, hf⟩ := kL_e hf
  refine pH_14 (pc := 17) (i := 0) (S1 := SH_4) E rfl e_SH_4 wd_30_4 dX1_sleepOver_17 ?_
  show zJ p l e rm_X1_sleepOver s m args below meth c (zQ G ct none [wH aH ct OH] A below args s 0 0) A G 1 0 0 [wH aH ct SH_4] [(0, .ref (aH 200))] 20 []
  refine z_aload_n (pc := 20) (k0 := 0) E dX1_sleepOver_20 rfl rfl ?_
  refine z_iconst (pc := 21) (v := 0) E dX1_sleepOver_21 (by decide) ?_
  obtain ⟨SH_5, e_SH_5, hf⟩ := kL_e hf
  refine pH_15 (pc := 22) (i := 0) (S1 := SH_5) E rfl e_SH_5 wd_31_12 dX1_sleepOver_22 ?_
  show zJ p l e rm_X1_sleepOver s m args below meth c (zQ G ct none [wH aH ct OH] A below args s 0 0) A G 1 0 0 [wH aH ct SH_5] [(0, .ref (aH 200))] 25 []
  refine z_aload_n (pc := 25) (k0 := 0) E dX1_sleepOver_25 rfl rfl ?_
  refine z_dup (pc := 26) E dX1_sleepOver_26 rfl ?_
  refine gH_16 (pc := 27) (i := 0) E rfl wd_31_13 dX1_sleepOver_27 ?_
  refine z_iconst (pc := 30) (v := 1) E dX1_sleepOver_30 (by decide) ?_
  obtain ⟨v6, e_v6, hf⟩ := kL_e hf
  refine z_iadd (pc := 31) (v := v6) E dX1_sleepOver_31 e_v6 ?_
  obtain ⟨SH_7, e_SH_7, hf⟩ := kL_e hf
  refine pH_16 (pc := 32) (i := 0) (S1 := SH_7) E rfl e_SH_7 wd_31_13 dX1_sleepOver_32 ?_
  show zJ p l e rm_X1_sleepOver s m args below meth c (zQ G ct none [wH aH ct OH] A below args s 0 0) A G 1 0 0 [wH aH ct SH_7] [(0, .ref (aH 200))] 35 []
  cases hf
  exact z_vret E hr dX1_sleepOver_35
noncomputable def f_X1_habits_l4 (N : Nat) (SH : zHS) : Nat → Int32 → Int32 → Option Int32 := fun n => Nat.rec (motive := fun _ => Int32 → Int32 → Option Int32) (fun _ _ => none) (fun _ ih x1 x2 => kB ((SH.1 7) ≤ x2) (some (x1)) (kB (7 ≤ x2) (some (x1)) (kO (¬ (x2 < 0 ∨ 7 ≤ Int32.toNatClampNeg x2)) (kL (x1 + ((SH.2.1 2) (Int32.toNatClampNeg x2))) (fun v4 => kL (x2 + 1) (fun v5 => ih v4 v5)))))) n
theorem f_X1_habits_l4_z (N : Nat) (SH : zHS) (x1 : Int32) (x2 : Int32) : f_X1_habits_l4 N SH 0 x1 x2 = none := rfl
theorem f_X1_habits_l4_s (N : Nat) (SH : zHS) (n : Nat) (x1 : Int32) (x2 : Int32) : f_X1_habits_l4 N SH (n + 1) x1 x2 = kB ((SH.1 7) ≤ x2) (some (x1)) (kB (7 ≤ x2) (some (x1)) (kO (¬ (x2 < 0 ∨ 7 ≤ Int32.toNatClampNeg x2)) (kL (x1 + ((SH.2.1 2) (Int32.toNatClampNeg x2))) (fun v4 => kL (x2 + 1) (fun v5 => (f_X1_habits_l4 N SH n) v4 v5))))) := rfl
noncomputable def f_X1_habits (N : Nat) (SH : zHS) : Option Int32 := f_X1_habits_l4 N SH N 0 0
theorem wv_X1_habits : zWV RX1 yX1_habits cX1_habits 3 (some .int) 0 := ⟨wd_39_0, wd_39_1, wd_1_15, wd_39_2, by decide +kernel⟩
def rm_X1_habits : Room := { frames := 0, cells := 0, slots := 0, locals := 0 }
set_option maxHeartbeats 4000000 in
set_option maxRecDepth 100000 in
theorem c_X1_habits {l : Launch} {G : va_G} {ct : Nat → ClassId} {aH : Nat → Nat} {N : Nat} {SH : zHS} {r0 : Int32} (hf : f_X1_habits N SH = some r0) : zC l yX1_habits cX1_habits 3 (some .int) rm_X1_habits G ct [.ref (aH 200)] [wH aH ct SH] [wH aH ct SH] (some (.int r0)) 0 0 := by
  refine z_enter (own := RX1) (lv := [(0, .ref (aH 200))]) (by decide) rfl (Nat.le_of_ble_eq_true rfl) rfl ?_
  intro p e s m args below meth c A E hr hnm
  have L4 : ∀ (n4 : Nat) (x1 : Int32) (x2 : Int32), f_X1_habits_l4 N SH n4 x1 x2 = some r0 → zJ p l e rm_X1_habits s m args below meth c (zQ G ct (some (.int r0)) [wH aH ct SH] A below args s 0 0) A G 3 0 0 [wH aH ct SH] [(0, .ref (aH 200)), (1, .int x1), (2, .int x2)] 4 [] := by
    intro n4
    induction n4 with
    | zero =>
      intro x1 x2 hf
      rw [f_X1_habits_l4_z] at hf
      cases hf
    | succ n4 ih4 =>
      intro x1 x2 hf
      rw [f_X1_habits_l4_s] at hf
      refine z_iload_n (pc := 4) (k0 := 2) E dX1_habits_4 rfl rfl ?_
      refine z_aload_n (pc := 5) (k0 := 0) E dX1_habits_5 rfl rfl ?_
      refine gH_7 (pc := 6) (i := 0) E rfl wd_10_19 dX1_habits_6 ?_
      refine z_icmp_ge (pc := 9) (tgt := 33) E dX1_habits_9 (by decide) (fun c1 => ?_) (fun c1 => ?_)
      · have hf := kB_t hf c1
        refine z_iload_n (pc := 33) (k0 := 1) E dX1_habits_33 rfl rfl ?_
        cases hf
        exact z_iret E hr dX1_habits_34
      · have hf := kB_f hf c1
        refine z_iload_n (pc := 12) (k0 := 2) E dX1_habits_12 rfl rfl ?_
        refine z_bipush (pc := 13) (v := 7) E dX1_habits_13 (by decide) ?_
        refine z_icmp_ge (pc := 15) (tgt := 33) E dX1_habits_15 (by decide) (fun c2 => ?_) (fun c2 => ?_)
        · have hf := kB_t hf c2
          refine z_iload_n (pc := 33) (k0 := 1) E dX1_habits_33 rfl rfl ?_
          cases hf
          exact z_iret E hr dX1_habits_34
        · have hf := kB_f hf c2
          refine z_iload_n (pc := 18) (k0 := 1) E dX1_habits_18 rfl rfl ?_
          refine z_aload_n (pc := 19) (k0 := 0) E dX1_habits_19 rfl rfl ?_
          refine gH_2 (pc := 20) (i := 0) E rfl wd_2_16 dX1_habits_20 ?_
          refine z_iload_n (pc := 23) (k0 := 2) E dX1_habits_23 rfl rfl ?_
          obtain ⟨c3, hf⟩ := kO_e hf
          refine lH_2 (pc := 24) (i := 0) E rfl c3 dX1_habits_24 ?_
          obtain ⟨v4, e_v4, hf⟩ := kL_e hf
          refine z_iadd (pc := 25) (v := v4) E dX1_habits_25 e_v4 ?_
          refine z_istore_n (pc := 26) (lv' := [(1, .int v4), (0, .ref (aH 200)), (2, .int x2)]) E dX1_habits_26 rfl (by decide) rfl ?_
          obtain ⟨v5, e_v5, hf⟩ := kL_e hf
          refine z_iinc (pc := 27) (k0 := 2) (v := v5) (lv' := [(2, .int v5), (1, .int v4), (0, .ref (aH 200))]) E dX1_habits_27 rfl e_v5 (by decide) rfl ?_
          refine z_goto (pc := 30) (tgt := 4) E dX1_habits_30 (by decide) ?_
          refine z_sub [2, 1, 0] (lv' := [(0, .ref (aH 200)), (1, .int v4), (2, .int v5)]) rfl ?_
          exact ih4 v4 v5 hf
  unfold f_X1_habits at hf
  refine z_iconst (pc := 0) (v := 0) E dX1_habits_0 (by decide) ?_
  refine z_istore_n (pc := 1) (lv' := [(1, .int 0), (0, .ref (aH 200))]) E dX1_habits_1 rfl (by decide) rfl ?_
  refine z_iconst (pc := 2) (v := 0) E dX1_habits_2 (by decide) ?_
  refine z_istore_n (pc := 3) (lv' := [(2, .int 0), (1, .int 0), (0, .ref (aH 200))]) E dX1_habits_3 rfl (by decide) rfl ?_
  refine z_sub [2, 1, 0] (lv' := [(0, .ref (aH 200)), (1, .int 0), (2, .int 0)]) rfl ?_
  exact L4 N 0 0 hf
noncomputable def f_X6_grants (SP : zPS) (SH : zHS) (a2 : Int32) : Option Int32 := kC (f_X4_grants SP SH a2) (fun r1 => kB (r1 = 0) (kB ((SH.1 13) < 2) (some (0)) (some (1))) (some (1)))
def rm_X6_grants : Room := { frames := 2, cells := 0, slots := 0, locals := 43 }
set_option maxHeartbeats 4000000 in
set_option maxRecDepth 100000 in
theorem c_X6_grants {l : Launch} {G : va_G} {ct : Nat → ClassId} {gG : Nat} {aP : Nat} {aH : Nat → Nat} {SP : zPS} {SH : zHS} {a2 : Int32} {r0 : Int32} (hf : f_X6_grants SP SH a2 = some r0) : zC l yX6_grants cX6_grants 3 (some .boolean) rm_X6_grants G ct [.ref aP, .ref (aH 200), .int a2] [wPa gG aP SP, wH aH ct SH] [wPa gG aP SP, wH aH ct SH] (some (.int r0)) 0 0 := by
  refine z_enter (own := RX6) (lv := [(0, .ref aP), (1, .ref (aH 200)), (2, .int a2)]) (by decide) rfl (Nat.le_of_ble_eq_true rfl) rfl ?_
  intro p e s m args below meth c A E hr hnm
  unfold f_X6_grants at hf
  refine z_aload_n (pc := 0) (k0 := 0) E dX6_grants_0 rfl rfl ?_
  refine z_aload_n (pc := 1) (k0 := 1) E dX6_grants_1 rfl rfl ?_
  refine z_iload_n (pc := 2) (k0 := 2) E dX6_grants_2 rfl rfl ?_
  obtain ⟨r1, h2, hf⟩ := kC_e hf
  refine z_callSU (pc := 3) (is := [0, 1]) (n := 2) (As := [.ref (aH 200), .int a2]) (st := []) (st' := [.int r1]) (C2 := [wPa gG aP SP, wH aH ct SH]) E (c_X4_grants (l := l) (G := G) (ct := ct) (gG := gG) (aP := aP) (aH := aH) h2) wd_13_3 wd_11_16 wd_13_4 wd_12_10 wd_8_22 wd_12_11 ⟨by decide, by decide +kernel⟩ ⟨Nat.le_of_ble_eq_true rfl, Nat.le_of_ble_eq_true rfl, Nat.le_of_ble_eq_true rfl, Nat.le_of_ble_eq_true rfl⟩ rfl rfl rfl (by decide) rfl rfl ⟨0, 0, _, _, _, _, rfl, rfl, (pcast (v := SP) E.2.2.2.2.1 E.2.2.2.2.2.1).choose_spec.1⟩ rfl (Nat.le_of_ble_eq_true rfl) dX6_grants_3 rfl rfl ?_
  show zJ p l e rm_X6_grants s m args below meth c (zQ G ct (some (.int r0)) [wPa gG aP SP, wH aH ct SH] A below args s 0 0) A G 3 0 0 [wPa gG aP SP, wH aH ct SH] [(0, .ref aP), (1, .ref (aH 200)), (2, .int a2)] 6 [.int r1]
  refine z_if_ne (pc := 6) (tgt := 17) E dX6_grants_6 (by decide) (fun c4 => ?_) (fun c4 => ?_)
  · have hf := kB_f hf c4
    refine z_iconst (pc := 17) (v := 1) E dX6_grants_17 (by decide) ?_
    refine z_goto (pc := 18) (tgt := 22) E dX6_grants_18 (by decide) ?_
    cases hf
    exact z_zret E hr (by decide) dX6_grants_22
  · have hf := kB_t hf c4
    refine z_aload_n (pc := 9) (k0 := 1) E dX6_grants_9 rfl rfl ?_
    refine gH_13 (pc := 10) (i := 1) E rfl wd_13_2 dX6_grants_10 ?_
    refine z_iconst (pc := 13) (v := 2) E dX6_grants_13 (by decide) ?_
    refine z_icmp_lt (pc := 14) (tgt := 21) E dX6_grants_14 (by decide) (fun c5 => ?_) (fun c5 => ?_)
    · have hf := kB_t hf c5
      refine z_iconst (pc := 21) (v := 0) E dX6_grants_21 (by decide) ?_
      cases hf
      exact z_zret E hr (by decide) dX6_grants_22
    · have hf := kB_f hf c5
      refine z_iconst (pc := 17) (v := 1) E dX6_grants_17 (by decide) ?_
      refine z_goto (pc := 18) (tgt := 22) E dX6_grants_18 (by decide) ?_
      cases hf
      exact z_zret E hr (by decide) dX6_grants_22
noncomputable def f_X3_grants (SP : zPS) (SH : zHS) (a2 : Int32) : Option Int32 := kC (f_X6_grants SP SH a2) (fun r1 => kB (r1 = 0) (kC (f_X1_has SH a2) (fun r5 => kB (r5 = 0) (some (0)) (kO (¬ (a2 < 0 ∨ 7 ≤ Int32.toNatClampNeg a2)) (kB (((SH.2.1 1) (Int32.toNatClampNeg a2)) ≤ 6) (some (0)) (some (1)))))) (some (1)))
def rm_X3_grants : Room := { frames := 3, cells := 0, slots := 0, locals := 65 }
set_option maxHeartbeats 4000000 in
set_option maxRecDepth 100000 in
theorem c_X3_grants {l : Launch} {G : va_G} {ct : Nat → ClassId} {gG : Nat} {aP : Nat} {aH : Nat → Nat} {SP : zPS} {SH : zHS} {a2 : Int32} {r0 : Int32} (hf : f_X3_grants SP SH a2 = some r0) : zC l yX3_grants cX3_grants 3 (some .boolean) rm_X3_grants G ct [.ref aP, .ref (aH 200), .int a2] [wPa gG aP SP, wH aH ct SH] [wPa gG aP SP, wH aH ct SH] (some (.int r0)) 0 0 := by
  refine z_enter (own := RX3) (lv := [(0, .ref aP), (1, .ref (aH 200)), (2, .int a2)]) (by decide) rfl (Nat.le_of_ble_eq_true rfl) rfl ?_
  intro p e s m args below meth c A E hr hnm
  unfold f_X3_grants at hf
  refine z_aload_n (pc := 0) (k0 := 0) E dX3_grants_0 rfl rfl ?_
  refine z_aload_n (pc := 1) (k0 := 1) E dX3_grants_1 rfl rfl ?_
  refine z_iload_n (pc := 2) (k0 := 2) E dX3_grants_2 rfl rfl ?_
  obtain ⟨r1, h2, hf⟩ := kC_e hf
  refine z_callSU (pc := 3) (is := [0, 1]) (n := 2) (As := [.ref (aH 200), .int a2]) (st := []) (st' := [.int r1]) (C2 := [wPa gG aP SP, wH aH ct SH]) E (c_X6_grants (l := l) (G := G) (ct := ct) (gG := gG) (aP := aP) (aH := aH) h2) wd_12_21 wd_12_22 wd_12_23 wd_13_0 wd_8_4 wd_13_1 ⟨by decide, by decide +kernel⟩ ⟨Nat.le_of_ble_eq_true rfl, Nat.le_of_ble_eq_true rfl, Nat.le_of_ble_eq_true rfl, Nat.le_of_ble_eq_true rfl⟩ rfl rfl rfl (by decide) rfl rfl ⟨0, 0, _, _, _, _, rfl, rfl, (pcast (v := SP) E.2.2.2.2.1 E.2.2.2.2.2.1).choose_spec.1⟩ rfl (Nat.le_of_ble_eq_true rfl) dX3_grants_3 rfl rfl ?_
  show zJ p l e rm_X3_grants s m args below meth c (zQ G ct (some (.int r0)) [wPa gG aP SP, wH aH ct SH] A below args s 0 0) A G 3 0 0 [wPa gG aP SP, wH aH ct SH] [(0, .ref aP), (1, .ref (aH 200)), (2, .int a2)] 6 [.int r1]
  refine z_if_ne (pc := 6) (tgt := 28) E dX3_grants_6 (by decide) (fun c4 => ?_) (fun c4 => ?_)
  · have hf := kB_f hf c4
    refine z_iconst (pc := 28) (v := 1) E dX3_grants_28 (by decide) ?_
    refine z_goto (pc := 29) (tgt := 33) E dX3_grants_29 (by decide) ?_
    cases hf
    exact z_zret E hr (by decide) dX3_grants_33
  · have hf := kB_t hf c4
    refine z_aload_n (pc := 9) (k0 := 1) E dX3_grants_9 rfl rfl ?_
    refine z_iload_n (pc := 10) (k0 := 2) E dX3_grants_10 rfl rfl ?_
    obtain ⟨r5, h6, hf⟩ := kC_e hf
    refine z_callV0 (pc := 11) (is := [1]) (n := 1) (As := [.int a2]) (st := []) (st' := [.int r5]) (C2 := [wPa gG aP SP, wH aH ct SH]) E (c_X1_has (l := l) (G := G) (ct := ct) (aH := aH) h6) wv_X1_has wd_13_5 ⟨Nat.le_of_ble_eq_true rfl, Nat.le_of_ble_eq_true rfl, Nat.le_of_ble_eq_true rfl, Nat.le_of_ble_eq_true rfl⟩ rfl rfl rfl (by decide) rfl rfl (zrH (j := 0) rfl) rfl (Nat.le_of_ble_eq_true rfl) dX3_grants_11 rfl rfl ?_
    refine z_if_eq (pc := 14) (tgt := 32) E dX3_grants_14 (by decide) (fun c7 => ?_) (fun c7 => ?_)
    · have hf := kB_t hf c7
      refine z_iconst (pc := 32) (v := 0) E dX3_grants_32 (by decide) ?_
      cases hf
      exact z_zret E hr (by decide) dX3_grants_33
    · have hf := kB_f hf c7
      refine z_aload_n (pc := 17) (k0 := 1) E dX3_grants_17 rfl rfl ?_
      refine gH_1 (pc := 18) (i := 1) E rfl wd_12_20 dX3_grants_18 ?_
      refine z_iload_n (pc := 21) (k0 := 2) E dX3_grants_21 rfl rfl ?_
      obtain ⟨c8, hf⟩ := kO_e hf
      refine lH_1 (pc := 22) (i := 1) E rfl c8 dX3_grants_22 ?_
      refine z_bipush (pc := 23) (v := 6) E dX3_grants_23 (by decide) ?_
      refine z_icmp_le (pc := 25) (tgt := 32) E dX3_grants_25 (by decide) (fun c9 => ?_) (fun c9 => ?_)
      · have hf := kB_t hf c9
        refine z_iconst (pc := 32) (v := 0) E dX3_grants_32 (by decide) ?_
        cases hf
        exact z_zret E hr (by decide) dX3_grants_33
      · have hf := kB_f hf c9
        refine z_iconst (pc := 28) (v := 1) E dX3_grants_28 (by decide) ?_
        refine z_goto (pc := 29) (tgt := 33) E dX3_grants_29 (by decide) ?_
        cases hf
        exact z_zret E hr (by decide) dX3_grants_33
noncomputable def f_X8_grants (SP : zPS) (SH : zHS) (a2 : Int32) : Option Int32 := kC (f_X1_has SH a2) (fun r1 => kB (r1 = 0) (some (0)) (kO (¬ (a2 < 0 ∨ 7 ≤ Int32.toNatClampNeg a2)) (kB ((SP.2.2) < ((SH.2.1 0) (Int32.toNatClampNeg a2))) (some (0)) (some (1)))))
def rm_X8_grants : Room := { frames := 1, cells := 0, slots := 0, locals := 21 }
set_option maxHeartbeats 4000000 in
set_option maxRecDepth 100000 in
theorem c_X8_grants {l : Launch} {G : va_G} {ct : Nat → ClassId} {gG : Nat} {aP : Nat} {aH : Nat → Nat} {SP : zPS} {SH : zHS} {a2 : Int32} {r0 : Int32} (hf : f_X8_grants SP SH a2 = some r0) : zC l yX8_grants cX8_grants 3 (some .boolean) rm_X8_grants G ct [.ref aP, .ref (aH 200), .int a2] [wPa gG aP SP, wH aH ct SH] [wPa gG aP SP, wH aH ct SH] (some (.int r0)) 0 0 := by
  refine z_enter (own := RX8) (lv := [(0, .ref aP), (1, .ref (aH 200)), (2, .int a2)]) (by decide) rfl (Nat.le_of_ble_eq_true rfl) rfl ?_
  intro p e s m args below meth c A E hr hnm
  unfold f_X8_grants at hf
  refine z_aload_n (pc := 0) (k0 := 1) E dX8_grants_0 rfl rfl ?_
  refine z_iload_n (pc := 1) (k0 := 2) E dX8_grants_1 rfl rfl ?_
  obtain ⟨r1, h2, hf⟩ := kC_e hf
  refine z_callV0 (pc := 2) (is := [1]) (n := 1) (As := [.int a2]) (st := []) (st' := [.int r1]) (C2 := [wPa gG aP SP, wH aH ct SH]) E (c_X1_has (l := l) (G := G) (ct := ct) (aH := aH) h2) wv_X1_has wd_13_16 ⟨Nat.le_of_ble_eq_true rfl, Nat.le_of_ble_eq_true rfl, Nat.le_of_ble_eq_true rfl, Nat.le_of_ble_eq_true rfl⟩ rfl rfl rfl (by decide) rfl rfl (zrH (j := 0) rfl) rfl (Nat.le_of_ble_eq_true rfl) dX8_grants_2 rfl rfl ?_
  refine z_if_eq (pc := 5) (tgt := 25) E dX8_grants_5 (by decide) (fun c3 => ?_) (fun c3 => ?_)
  · have hf := kB_t hf c3
    refine z_iconst (pc := 25) (v := 0) E dX8_grants_25 (by decide) ?_
    cases hf
    exact z_zret E hr (by decide) dX8_grants_26
  · have hf := kB_f hf c3
    refine z_aload_n (pc := 8) (k0 := 1) E dX8_grants_8 rfl rfl ?_
    refine gH_0 (pc := 9) (i := 1) E rfl wd_13_13 dX8_grants_9 ?_
    refine z_iload_n (pc := 12) (k0 := 2) E dX8_grants_12 rfl rfl ?_
    obtain ⟨c4, hf⟩ := kO_e hf
    refine lH_0 (pc := 13) (i := 1) E rfl c4 dX8_grants_13 ?_
    refine z_aload_n (pc := 14) (k0 := 0) E dX8_grants_14 rfl rfl ?_
    refine gP_2 (pc := 15) (i := 0) E rfl wd_13_14 (fun x h => u_same (E.2.2.2.2.1 _ wd_13_15) x h) dX8_grants_15 ?_
    refine z_icmp_gt (pc := 18) (tgt := 25) E dX8_grants_18 (by decide) (fun c5 => ?_) (fun c5 => ?_)
    · have hf := kB_t hf c5
      refine z_iconst (pc := 25) (v := 0) E dX8_grants_25 (by decide) ?_
      cases hf
      exact z_zret E hr (by decide) dX8_grants_26
    · have hf := kB_f hf c5
      refine z_iconst (pc := 21) (v := 1) E dX8_grants_21 (by decide) ?_
      refine z_goto (pc := 22) (tgt := 26) E dX8_grants_22 (by decide) ?_
      cases hf
      exact z_zret E hr (by decide) dX8_grants_26
noncomputable def f_X8_tells (SP : zPS) (SG : (Nat → Int32)) (a1 : Int32) : Option (Int32 × ((Nat → Int32))) := kO (SP.1 = 3 ∨ SP.1 = 6) (kC (f_X4_begins SP SG 40) (fun S_1 => kD (f_X4_tells SP S_1 a1) (fun r4 S_5 => kD (f_v_gives SP S_5 1) (fun r8 S_9 => kL (r4 + r8) (fun v12 => some (v12, S_9))))))
def rm_X8_tells : Room := { frames := 6, cells := 0, slots := 0, locals := 127 }
set_option maxHeartbeats 4000000 in
set_option maxRecDepth 100000 in
theorem c_X8_tells {l : Launch} {G : va_G} {ct : Nat → ClassId} {gG : Nat} {aP : Nat} {SP : zPS} {SG : (Nat → Int32)} {a1 : Int32} {r0 : Int32} {OG : (Nat → Int32)} (hf : f_X8_tells SP SG a1 = some (r0, OG)) : zC l yX8_tells cX8_tells 2 (some .int) rm_X8_tells G ct [.ref aP, .int a1] [wPa gG aP SP, wA gG 21 ct SG] [wPa gG aP SP, wA gG 21 ct OG] (some (.int r0)) 0 0 := by
  refine z_enter (own := RX8) (lv := [(0, .ref aP), (1, .int a1)]) (by decide) rfl (Nat.le_of_ble_eq_true rfl) rfl ?_
  intro p e s m args below meth c A E hr hnm
  unfold f_X8_tells at hf
  obtain ⟨hk, hf⟩ := kO_e hf
  refine z_aload_n (pc := 0) (k0 := 0) E dX8_tells_0 rfl rfl ?_
  refine z_bipush (pc := 1) (v := 40) E dX8_tells_1 (by decide) ?_
  obtain ⟨S_1, h2, hf⟩ := kC_e hf
  have K3 : zJ p l e rm_X8_tells s m args below meth c (zQ G ct (some (.int r0)) [wPa gG aP SP, wA gG 21 ct OG] A below args s 0 0) A G 2 0 0 [wPa gG aP SP, wA gG 21 ct S_1] [(0, .ref aP), (1, .int a1)] 6 [] := by
    refine z_aload_n (pc := 6) (k0 := 0) E dX8_tells_6 rfl rfl ?_
    refine z_iload_n (pc := 7) (k0 := 1) E dX8_tells_7 rfl rfl ?_
    obtain ⟨r4, S_5, h6, hf⟩ := kD_e hf
    refine z_callSU (pc := 8) (is := [0, 1]) (n := 1) (As := [.int a1]) (st := []) (st' := [.int r4]) (C2 := [wPa gG aP SP, wA gG 21 ct S_5]) E (c_X4_tells (l := l) (G := G) (ct := ct) (gG := gG) (aP := aP) h6) wd_48_12 wd_47_10 wd_48_13 wd_47_22 wd_8_22 wd_47_20 ⟨by decide, by decide +kernel⟩ ⟨Nat.le_of_ble_eq_true rfl, Nat.le_of_ble_eq_true rfl, Nat.le_of_ble_eq_true rfl, Nat.le_of_ble_eq_true rfl⟩ rfl rfl rfl (by decide) rfl rfl ⟨0, 0, _, _, _, _, rfl, rfl, (pcast (v := SP) E.2.2.2.2.1 E.2.2.2.2.2.1).choose_spec.1⟩ rfl (Nat.le_of_ble_eq_true rfl) dX8_tells_8 rfl rfl ?_
    show zJ p l e rm_X8_tells s m args below meth c (zQ G ct (some (.int r0)) [wPa gG aP SP, wA gG 21 ct OG] A below args s 0 0) A G 2 0 0 [wPa gG aP SP, wA gG 21 ct S_5] [(0, .ref aP), (1, .int a1)] 11 [.int r4]
    refine z_aload_n (pc := 11) (k0 := 0) E dX8_tells_11 rfl rfl ?_
    refine z_iconst (pc := 12) (v := 1) E dX8_tells_12 (by decide) ?_
    obtain ⟨r8, S_9, h10, hf⟩ := kD_e hf
    have K11 : zJ p l e rm_X8_tells s m args below meth c (zQ G ct (some (.int r0)) [wPa gG aP SP, wA gG 21 ct OG] A below args s 0 0) A G 2 0 0 [wPa gG aP SP, wA gG 21 ct S_9] [(0, .ref aP), (1, .int a1)] 16 [.int r8, .int r4] := by
      obtain ⟨v12, e_v12, hf⟩ := kL_e hf
      refine z_iadd (pc := 16) (v := v12) E dX8_tells_16 e_v12 ?_
      cases hf
      exact z_iret E hr dX8_tells_17
    rcases hk with hk | hk
    · have h10 := f_v_gives_3 hk h10
      refine z_callU (x := ⟨"MoreStory$Tired", "gives", "(I)I"⟩) (owner := "MoreStory$Parent") (pc := 13) (is := [0, 1]) (n := 1) (As := [.int 1]) (st := [.int r4]) (st' := [.int r8, .int r4]) (C2 := [wPa gG aP SP, wA gG 21 ct S_9]) E (c_X4_gives (l := l) (G := G) (ct := ct) (gG := gG) (aP := aP) h10) wd_48_14 wd_48_15 wd_48_16 wd_45_22 wd_8_22 wd_45_23 rfl ⟨by decide, by decide, by decide +kernel⟩ ⟨Nat.le_of_ble_eq_true rfl, Nat.le_of_ble_eq_true rfl, Nat.le_of_ble_eq_true rfl, Nat.le_of_ble_eq_true rfl⟩ rfl rfl rfl (by decide) rfl rfl (zrP8 hk (j := 0) rfl) rfl (Nat.le_of_ble_eq_true rfl) dX8_tells_13 rfl rfl ?_
      exact K11
    · have h10 := f_v_gives_6 hk h10
      refine z_callO (x := ⟨"MoreStory$Tired", "gives", "(I)I"⟩) (owner := "MoreStory$Parent") (pc := 13) (is := [0, 1]) (n := 1) (As := [.int 1]) (st := [.int r4]) (st' := [.int r8, .int r4]) (C2 := [wPa gG aP SP, wA gG 21 ct S_9]) E (c_X9_gives (l := l) (G := G) (ct := ct) (gG := gG) (aP := aP) h10) wd_48_14 wd_48_15 wd_46_12 wd_48_17 wd_47_7 wd_8_19 wd_47_8 wd_45_23 ⟨by decide, by decide, by decide +kernel⟩ ⟨Nat.le_of_ble_eq_true rfl, Nat.le_of_ble_eq_true rfl, Nat.le_of_ble_eq_true rfl, Nat.le_of_ble_eq_true rfl⟩ rfl rfl rfl (by decide) rfl rfl (zrP9 hk (j := 0) rfl) rfl (Nat.le_of_ble_eq_true rfl) dX8_tells_13 rfl rfl ?_
      exact K11
  rcases hk with hk | hk
  · refine z_callU (x := ⟨"MoreStory$Tired", "begins", "(I)V"⟩) (owner := "MoreStory$Parent") (pc := 3) (is := [0, 1]) (n := 1) (As := [.int 40]) (st := []) (st' := []) (C2 := [wPa gG aP SP, wA gG 21 ct S_1]) E (c_X4_begins (l := l) (G := G) (ct := ct) (gG := gG) (aP := aP) h2) wd_48_8 wd_48_9 wd_48_10 wd_44_18 wd_8_22 wd_44_19 rfl ⟨by decide, by decide, by decide +kernel⟩ ⟨Nat.le_of_ble_eq_true rfl, Nat.le_of_ble_eq_true rfl, Nat.le_of_ble_eq_true rfl, Nat.le_of_ble_eq_true rfl⟩ rfl rfl rfl (by decide) rfl rfl (zrP8 hk (j := 0) rfl) rfl (Nat.le_of_ble_eq_true rfl) dX8_tells_3 rfl rfl ?_
    exact K3
  · refine z_callU (x := ⟨"MoreStory$Tired", "begins", "(I)V"⟩) (owner := "MoreStory$Parent") (pc := 3) (is := [0, 1]) (n := 1) (As := [.int 40]) (st := []) (st' := []) (C2 := [wPa gG aP SP, wA gG 21 ct S_1]) E (c_X4_begins (l := l) (G := G) (ct := ct) (gG := gG) (aP := aP) h2) wd_48_8 wd_48_9 wd_48_11 wd_44_18 wd_8_22 wd_44_19 rfl ⟨by decide, by decide, by decide +kernel⟩ ⟨Nat.le_of_ble_eq_true rfl, Nat.le_of_ble_eq_true rfl, Nat.le_of_ble_eq_true rfl, Nat.le_of_ble_eq_true rfl⟩ rfl rfl rfl (by decide) rfl rfl (zrP9 hk (j := 0) rfl) rfl (Nat.le_of_ble_eq_true rfl) dX8_tells_3 rfl rfl ?_
    exact K3
noncomputable def f_v_tells (SP : zPS) (SG : Nat → Int32) (a : Int32) : Option (Int32 × ((Nat → Int32))) := kB (SP.1 = 1) (f_X4_tells SP SG a) (kB (SP.1 = 2) (f_X4_tells SP SG a) (kB (SP.1 = 3) (f_X8_tells SP SG a) (kB (SP.1 = 4) (f_X4_tells SP SG a) (kB (SP.1 = 5) (f_X0_tells SP SG a) (kB (SP.1 = 6) (f_X8_tells SP SG a) (f_X4_tells SP SG a))))))
theorem f_v_tells_1 {SP : zPS} {SG : Nat → Int32} {a : Int32} {o : Option (Int32 × ((Nat → Int32)))} (h : SP.1 = 1) (hf : f_v_tells SP SG a = o) : f_X4_tells SP SG a = o := by
  unfold f_v_tells at hf
  exact kB_t hf h
theorem f_v_tells_2 {SP : zPS} {SG : Nat → Int32} {a : Int32} {o : Option (Int32 × ((Nat → Int32)))} (h : SP.1 = 2) (hf : f_v_tells SP SG a = o) : f_X4_tells SP SG a = o := by
  unfold f_v_tells at hf
  have hf := kB_f hf (by rw [h]; decide)
  exact kB_t hf h
theorem f_v_tells_3 {SP : zPS} {SG : Nat → Int32} {a : Int32} {o : Option (Int32 × ((Nat → Int32)))} (h : SP.1 = 3) (hf : f_v_tells SP SG a = o) : f_X8_tells SP SG a = o := by
  unfold f_v_tells at hf
  have hf := kB_f hf (by rw [h]; decide)
  have hf := kB_f hf (by rw [h]; decide)
  exact kB_t hf h
theorem f_v_tells_4 {SP : zPS} {SG : Nat → Int32} {a : Int32} {o : Option (Int32 × ((Nat → Int32)))} (h : SP.1 = 4) (hf : f_v_tells SP SG a = o) : f_X4_tells SP SG a = o := by
  unfold f_v_tells at hf
  have hf := kB_f hf (by rw [h]; decide)
  have hf := kB_f hf (by rw [h]; decide)
  have hf := kB_f hf (by rw [h]; decide)
  exact kB_t hf h
theorem f_v_tells_5 {SP : zPS} {SG : Nat → Int32} {a : Int32} {o : Option (Int32 × ((Nat → Int32)))} (h : SP.1 = 5) (hf : f_v_tells SP SG a = o) : f_X0_tells SP SG a = o := by
  unfold f_v_tells at hf
  have hf := kB_f hf (by rw [h]; decide)
  have hf := kB_f hf (by rw [h]; decide)
  have hf := kB_f hf (by rw [h]; decide)
  have hf := kB_f hf (by rw [h]; decide)
  exact kB_t hf h
theorem f_v_tells_6 {SP : zPS} {SG : Nat → Int32} {a : Int32} {o : Option (Int32 × ((Nat → Int32)))} (h : SP.1 = 6) (hf : f_v_tells SP SG a = o) : f_X8_tells SP SG a = o := by
  unfold f_v_tells at hf
  have hf := kB_f hf (by rw [h]; decide)
  have hf := kB_f hf (by rw [h]; decide)
  have hf := kB_f hf (by rw [h]; decide)
  have hf := kB_f hf (by rw [h]; decide)
  have hf := kB_f hf (by rw [h]; decide)
  exact kB_t hf h
theorem f_v_tells_e {SP : zPS} {SG : Nat → Int32} {a : Int32} {o : Option (Int32 × ((Nat → Int32)))} (h1 : ¬ SP.1 = 1) (h2 : ¬ SP.1 = 2) (h3 : ¬ SP.1 = 3) (h4 : ¬ SP.1 = 4) (h5 : ¬ SP.1 = 5) (h6 : ¬ SP.1 = 6) (hf : f_v_tells SP SG a = o) : f_X4_tells SP SG a = o := by
  unfold f_v_tells at hf
  have hf := kB_f hf h1
  have hf := kB_f hf h2
  have hf := kB_f hf h3
  have hf := kB_f hf h4
  have hf := kB_f hf h5
  have hf := kB_f hf h6
  exact hf
noncomputable def f_X9_grants (SP : zPS) (SH : zHS) (a2 : Int32) : Option Int32 := kL ((4 : Int32) * (SP.2.1)) (fun v1 => kL ((SH.1 16) - (SH.1 16) / 4 * 4) (fun v2 => kL (v1 + v2) (fun v3 => kC (f_X8_grants SP SH a2) (fun r4 => kB (r4 = 0) (some (0)) (kB (v3 < 0) (some (0)) (kB ((Int32.ofNat 16) ≤ v3) (some (0)) (kO (¬ (v3 < 0 ∨ 16 ≤ Int32.toNatClampNeg v3)) (kB (((SH.2.1 4) (Int32.toNatClampNeg v3)) = 0) (some (0)) (some (1))))))))))
def rm_X9_grants : Room := { frames := 2, cells := 0, slots := 0, locals := 43 }
set_option maxHeartbeats 4000000 in
set_option maxRecDepth 100000 in
theorem c_X9_grants {l : Launch} {G : va_G} {ct : Nat → ClassId} {gG : Nat} {aP : Nat} {aH : Nat → Nat} {SP : zPS} {SH : zHS} {a2 : Int32} {r0 : Int32} (hf : f_X9_grants SP SH a2 = some r0) : zC l yX9_grants cX9_grants 4 (some .boolean) rm_X9_grants G ct [.ref aP, .ref (aH 200), .int a2] [wPa gG aP SP, wH aH ct SH] [wPa gG aP SP, wH aH ct SH] (some (.int r0)) 0 0 := by
  refine z_enter (own := RX9) (lv := [(0, .ref aP), (1, .ref (aH 200)), (2, .int a2)]) (by decide) rfl (Nat.le_of_ble_eq_true rfl) rfl ?_
  intro p e s m args below meth c A E hr hnm
  unfold f_X9_grants at hf
  refine z_iconst (pc := 0) (v := 4) E dX9_grants_0 (by decide) ?_
  refine z_aload_n (pc := 1) (k0 := 0) E dX9_grants_1 rfl rfl ?_
  refine gP_1 (pc := 2) (i := 0) E rfl wd_13_20 (fun x h => u_same (E.2.2.2.2.1 _ wd_13_21) x h) dX9_grants_2 ?_
  obtain ⟨v1, e_v1, hf⟩ := kL_e hf
  refine z_imul (pc := 5) (v := v1) E dX9_grants_5 e_v1 ?_
  refine z_aload_n (pc := 6) (k0 := 1) E dX9_grants_6 rfl rfl ?_
  refine gH_16 (pc := 7) (i := 1) E rfl wd_13_22 dX9_grants_7 ?_
  refine z_iconst (pc := 10) (v := 4) E dX9_grants_10 (by decide) ?_
  obtain ⟨v2, e_v2, hf⟩ := kL_e hf
  refine z_irem (pc := 11) (v := v2) E dX9_grants_11 (by decide) e_v2 ?_
  obtain ⟨v3, e_v3, hf⟩ := kL_e hf
  refine z_iadd (pc := 12) (v := v3) E dX9_grants_12 e_v3 ?_
  refine z_istore_n (pc := 13) (lv' := [(3, .int v3), (0, .ref aP), (1, .ref (aH 200)), (2, .int a2)]) E dX9_grants_13 rfl (by decide) rfl ?_
  refine z_aload_n (pc := 14) (k0 := 1) E dX9_grants_14 rfl rfl ?_
  refine z_aload_n (pc := 15) (k0 := 2) E dX9_grants_15 rfl rfl ?_
  refine z_iload_n (pc := 16) (k0 := 3) E dX9_grants_16 rfl rfl ?_
  obtain ⟨r4, h5, hf⟩ := kC_e hf
  refine z_callSU (pc := 17) (is := [0, 1]) (n := 2) (As := [.ref (aH 200), .int a2]) (st := []) (st' := [.int r4]) (C2 := [wPa gG aP SP, wH aH ct SH]) E (c_X8_grants (l := l) (G := G) (ct := ct) (gG := gG) (aP := aP) (aH := aH) h5) wd_14_0 wd_14_1 wd_14_2 wd_13_11 wd_8_10 wd_13_12 ⟨by decide, by decide +kernel⟩ ⟨Nat.le_of_ble_eq_true rfl, Nat.le_of_ble_eq_true rfl, Nat.le_of_ble_eq_true rfl, Nat.le_of_ble_eq_true rfl⟩ rfl rfl rfl (by decide) rfl rfl ⟨0, 0, _, _, _, _, rfl, rfl, (pcast (v := SP) E.2.2.2.2.1 E.2.2.2.2.2.1).choose_spec.1⟩ rfl (Nat.le_of_ble_eq_true rfl) dX9_grants_17 rfl rfl ?_
  show zJ p l e rm_X9_grants s m args below meth c (zQ G ct (some (.int r0)) [wPa gG aP SP, wH aH ct SH] A below args s 0 0) A G 4 0 0 [wPa gG aP SP, wH aH ct SH] [(3, .int v3), (0, .ref aP), (1, .ref (aH 200)), (2, .int a2)] 20 [.int r4]
  refine z_if_eq (pc := 20) (tgt := 49) E dX9_grants_20 (by decide) (fun c7 => ?_) (fun c7 => ?_)
  · have hf := kB_t hf c7
    refine z_iconst (pc := 49) (v := 0) E dX9_grants_49 (by decide) ?_
    cases hf
    exact z_zret E hr (by decide) dX9_grants_50
  · have hf := kB_f hf c7
    refine z_iload_n (pc := 23) (k0 := 0) E dX9_grants_23 rfl rfl ?_
    refine z_if_lt (pc := 24) (tgt := 49) E dX9_grants_24 (by decide) (fun c8 => ?_) (fun c8 => ?_)
    · have hf := kB_t hf c8
      refine z_iconst (pc := 49) (v := 0) E dX9_grants_49 (by decide) ?_
      cases hf
      exact z_zret E hr (by decide) dX9_grants_50
    · have hf := kB_f hf c8
      refine z_iload_n (pc := 27) (k0 := 0) E dX9_grants_27 rfl rfl ?_
      refine z_aload_n (pc := 28) (k0 := 2) E dX9_grants_28 rfl rfl ?_
      refine gH_4 (pc := 29) (i := 1) E rfl wd_13_23 dX9_grants_29 ?_
      refine nH_4 (pc := 32) (i := 1) E rfl dX9_grants_32 ?_
      refine z_icmp_ge (pc := 33) (tgt := 49) E dX9_grants_33 (by decide) (fun c9 => ?_) (fun c9 => ?_)
      · have hf := kB_t hf c9
        refine z_iconst (pc := 49) (v := 0) E dX9_grants_49 (by decide) ?_
        cases hf
        exact z_zret E hr (by decide) dX9_grants_50
      · have hf := kB_f hf c9
        refine z_aload_n (pc := 36) (k0 := 2) E dX9_grants_36 rfl rfl ?_
        refine gH_4 (pc := 37) (i := 1) E rfl wd_13_23 dX9_grants_37 ?_
        refine z_iload_n (pc := 40) (k0 := 0) E dX9_grants_40 rfl rfl ?_
        obtain ⟨c10, hf⟩ := kO_e hf
        refine lH_4 (pc := 41) (i := 1) E rfl c10 dX9_grants_41 ?_
        refine z_if_eq (pc := 42) (tgt := 49) E dX9_grants_42 (by decide) (fun c11 => ?_) (fun c11 => ?_)
        · have hf := kB_t hf c11
          refine z_iconst (pc := 49) (v := 0) E dX9_grants_49 (by decide) ?_
          cases hf
          exact z_zret E hr (by decide) dX9_grants_50
        · have hf := kB_f hf c11
          refine z_iconst (pc := 45) (v := 1) E dX9_grants_45 (by decide) ?_
          refine z_goto (pc := 46) (tgt := 50) E dX9_grants_46 (by decide) ?_
          cases hf
          exact z_zret E hr (by decide) dX9_grants_50
noncomputable def f_v_grants (SP : zPS) (SH : zHS) (a : Int32) : Option Int32 := kB (SP.1 = 1) (f_X6_grants SP SH a) (kB (SP.1 = 2) (f_X7_grants SP SH a) (kB (SP.1 = 3) (f_X8_grants SP SH a) (kB (SP.1 = 4) (f_X3_grants SP SH a) (kB (SP.1 = 5) (f_X0_grants SP SH a) (kB (SP.1 = 6) (f_X9_grants SP SH a) (f_X4_grants SP SH a))))))
theorem f_v_grants_1 {SP : zPS} {SH : zHS} {a : Int32} {o : Option Int32} (h : SP.1 = 1) (hf : f_v_grants SP SH a = o) : f_X6_grants SP SH a = o := by
  unfold f_v_grants at hf
  exact kB_t hf h
theorem f_v_grants_2 {SP : zPS} {SH : zHS} {a : Int32} {o : Option Int32} (h : SP.1 = 2) (hf : f_v_grants SP SH a = o) : f_X7_grants SP SH a = o := by
  unfold f_v_grants at hf
  have hf := kB_f hf (by rw [h]; decide)
  exact kB_t hf h
theorem f_v_grants_3 {SP : zPS} {SH : zHS} {a : Int32} {o : Option Int32} (h : SP.1 = 3) (hf : f_v_grants SP SH a = o) : f_X8_grants SP SH a = o := by
  unfold f_v_grants at hf
  have hf := kB_f hf (by rw [h]; decide)
  have hf := kB_f hf (by rw [h]; decide)
  exact kB_t hf h
theorem f_v_grants_4 {SP : zPS} {SH : zHS} {a : Int32} {o : Option Int32} (h : SP.1 = 4) (hf : f_v_grants SP SH a = o) : f_X3_grants SP SH a = o := by
  unfold f_v_grants at hf
  have hf := kB_f hf (by rw [h]; decide)
  have hf := kB_f hf (by rw [h]; decide)
  have hf := kB_f hf (by rw [h]; decide)
  exact kB_t hf h
theorem f_v_grants_5 {SP : zPS} {SH : zHS} {a : Int32} {o : Option Int32} (h : SP.1 = 5) (hf : f_v_grants SP SH a = o) : f_X0_grants SP SH a = o := by
  unfold f_v_grants at hf
  have hf := kB_f hf (by rw [h]; decide)
  have hf := kB_f hf (by rw [h]; decide)
  have hf := kB_f hf (by rw [h]; decide)
  have hf := kB_f hf (by rw [h]; decide)
  exact kB_t hf h
theorem f_v_grants_6 {SP : zPS} {SH : zHS} {a : Int32} {o : Option Int32} (h : SP.1 = 6) (hf : f_v_grants SP SH a = o) : f_X9_grants SP SH a = o := by
  unfold f_v_grants at hf
  have hf := kB_f hf (by rw [h]; decide)
  have hf := kB_f hf (by rw [h]; decide)
  have hf := kB_f hf (by rw [h]; decide)
  have hf := kB_f hf (by rw [h]; decide)
  have hf := kB_f hf (by rw [h]; decide)
  exact kB_t hf h
theorem f_v_grants_e {SP : zPS} {SH : zHS} {a : Int32} {o : Option Int32} (h1 : ¬ SP.1 = 1) (h2 : ¬ SP.1 = 2) (h3 : ¬ SP.1 = 3) (h4 : ¬ SP.1 = 4) (h5 : ¬ SP.1 = 5) (h6 : ¬ SP.1 = 6) (hf : f_v_grants SP SH a = o) : f_X4_grants SP SH a = o := by
  unfold f_v_grants at hf
  have hf := kB_f hf h1
  have hf := kB_f hf h2
  have hf := kB_f hf h3
  have hf := kB_f hf h4
  have hf := kB_f hf h5
  have hf := kB_f hf h6
  exact hf
noncomputable def f_X10_start_l23 (N : Nat) (SK : zHS) (SD : (List (Nat × zPS))) : Nat → zTS → zHS → Int32 → Option (zTS × zHS) := fun n => Nat.rec (motive := fun _ => zTS → zHS → Int32 → Option (zTS × zHS)) (fun _ _ _ => none) (fun _ ih ST SH x2 => kB ((ST.1 2) ≤ x2) (kL (tSI ST 3 (SK.1 15)) (fun ST_6 => kL (tSI ST_6 4 1000) (fun ST_7 => kL (tSI ST_7 5 0) (fun ST_8 => kL (tSI ST_8 6 0) (fun ST_9 => some (ST_9, SH)))))) (kO (¬ (x2 < 0 ∨ 7 ≤ Int32.toNatClampNeg x2)) (kL (tSA ST (upd (ST.2) (Int32.toNatClampNeg x2) x2)) (fun ST_11 => kL (x2 + 1) (fun v12 => ih ST_11 SH v12))))) n
theorem f_X10_start_l23_z (N : Nat) (SK : zHS) (SD : (List (Nat × zPS))) (ST : zTS) (SH : zHS) (x2 : Int32) : f_X10_start_l23 N SK SD 0 ST SH x2 = none := rfl
theorem f_X10_start_l23_s (N : Nat) (SK : zHS) (SD : (List (Nat × zPS))) (n : Nat) (ST : zTS) (SH : zHS) (x2 : Int32) : f_X10_start_l23 N SK SD (n + 1) ST SH x2 = kB ((ST.1 2) ≤ x2) (kL (tSI ST 3 (SK.1 15)) (fun ST_6 => kL (tSI ST_6 4 1000) (fun ST_7 => kL (tSI ST_7 5 0) (fun ST_8 => kL (tSI ST_8 6 0) (fun ST_9 => some (ST_9, SH)))))) (kO (¬ (x2 < 0 ∨ 7 ≤ Int32.toNatClampNeg x2)) (kL (tSA ST (upd (ST.2) (Int32.toNatClampNeg x2) x2)) (fun ST_11 => kL (x2 + 1) (fun v12 => (f_X10_start_l23 N SK SD n) ST_11 SH v12)))) := rfl
noncomputable def f_X10_start (N : Nat) (ST : zTS) (SH : zHS) (SK : zHS) (SD : (List (Nat × zPS))) : Option (zTS × zHS) := kC (f_X1_copy N SH SK SD) (fun S_1 => kL (if 7 < (SK.1 7) then 7 else (SK.1 7)) (fun v3 => kL (tSI ST 2 v3) (fun ST_4 => f_X10_start_l23 N SK SD N ST_4 S_1 0)))
theorem wv_X10_start : zWV RX10 yX10_start cX10_start 3 none 1 := ⟨wd_32_13, wd_32_14, wd_1_20, wd_32_15, by decide +kernel⟩
def rm_X10_start : Room := { frames := 2, cells := 0, slots := 0, locals := 122 }
set_option maxHeartbeats 4000000 in
set_option maxRecDepth 100000 in
theorem c_X10_start {l : Launch} {G : va_G} {ct : Nat → ClassId} {aT : Nat → Nat} {aH : Nat → Nat} {aK : Nat → Nat} {gG : Nat} {N : Nat} {ST : zTS} {SH : zHS} {SK : zHS} {SD : (List (Nat × zPS))} {OT : zTS} {OH : zHS} (hf : f_X10_start N ST SH SK SD = some (OT, OH)) : zC l yX10_start cX10_start 3 none rm_X10_start G ct [.ref (aT 200), .ref (aK 200)] [wT aT (aH 200) ct ST, wH aH ct SH, wH aK ct SK, wDp gG SD] [wT aT (aH 200) ct OT, wH aH ct OH, wH aK ct SK, wDp gG SD] none 0 0 := by
  refine z_enter (own := RX10) (lv := [(0, .ref (aT 200)), (1, .ref (aK 200))]) (by decide) rfl (Nat.le_of_ble_eq_true rfl) rfl ?_
  intro p e s m args below meth c A E hr hnm
  have L23 : ∀ (n23 : Nat) (ST : zTS) (SH : zHS) (x2 : Int32), f_X10_start_l23 N SK SD n23 ST SH x2 = some (OT, OH) → zJ p l e rm_X10_start s m args below meth c (zQ G ct none [wT aT (aH 200) ct OT, wH aH ct OH, wH aK ct SK, wDp gG SD] A below args s 0 0) A G 3 0 0 [wT aT (aH 200) ct ST, wH aH ct SH, wH aK ct SK, wDp gG SD] [(0, .ref (aT 200)), (1, .ref (aK 200)), (2, .int x2)] 23 [] := by
    intro n23
    induction n23 with
    | zero =>
      intro ST SH x2 hf
      rw [f_X10_start_l23_z] at hf
      cases hf
    | succ n23 ih23 =>
      intro ST SH x2 hf
      rw [f_X10_start_l23_s] at hf
      refine z_iload_n (pc := 23) (k0 := 2) E dX10_start_23 rfl rfl ?_
      refine z_aload_n (pc := 24) (k0 := 0) E dX10_start_24 rfl rfl ?_
      refine gT_2 (pc := 25) (i := 0) E rfl wd_32_18 dX10_start_25 ?_
      refine z_icmp_ge (pc := 28) (tgt := 44) E dX10_start_28 (by decide) (fun c5 => ?_) (fun c5 => ?_)
      · have hf := kB_t hf c5
        refine z_aload_n (pc := 44) (k0 := 0) E dX10_start_44 rfl rfl ?_
        refine z_aload_n (pc := 45) (k0 := 1) E dX10_start_45 rfl rfl ?_
        refine gH_15 (pc := 46) (i := 2) E rfl wd_32_19 dX10_start_46 ?_
        obtain ⟨ST_6, e_ST_6, hf⟩ := kL_e hf
        refine pT_3 (pc := 49) (i := 0) (S1 := ST_6) E rfl e_ST_6 wd_32_20 dX10_start_49 ?_
        show zJ p l e rm_X10_start s m args below meth c (zQ G ct none [wT aT (aH 200) ct OT, wH aH ct OH, wH aK ct SK, wDp gG SD] A below args s 0 0) A G 3 0 0 [wT aT (aH 200) ct ST_6, wH aH ct SH, wH aK ct SK, wDp gG SD] [(0, .ref (aT 200)), (1, .ref (aK 200)), (2, .int x2)] 52 []
        refine z_aload_n (pc := 52) (k0 := 0) E dX10_start_52 rfl rfl ?_
        refine z_sipush (pc := 53) (v := 1000) E dX10_start_53 (by decide) ?_
        obtain ⟨ST_7, e_ST_7, hf⟩ := kL_e hf
        refine pT_4 (pc := 56) (i := 0) (S1 := ST_7) E rfl e_ST_7 wd_32_21 dX10_start_56 ?_
        show zJ p l e rm_X10_start s m args below meth c (zQ G ct none [wT aT (aH 200) ct OT, wH aH ct OH, wH aK ct SK, wDp gG SD] A below args s 0 0) A G 3 0 0 [wT aT (aH 200) ct ST_7, wH aH ct SH, wH aK ct SK, wDp gG SD] [(0, .ref (aT 200)), (1, .ref (aK 200)), (2, .int x2)] 59 []
        refine z_aload_n (pc := 59) (k0 := 0) E dX10_start_59 rfl rfl ?_
        refine z_iconst (pc := 60) (v := 0) E dX10_start_60 (by decide) ?_
        obtain ⟨ST_8, e_ST_8, hf⟩ := kL_e hf
        refine pT_5 (pc := 61) (i := 0) (S1 := ST_8) E rfl e_ST_8 wd_32_22 dX10_start_61 ?_
        show zJ p l e rm_X10_start s m args below meth c (zQ G ct none [wT aT (aH 200) ct OT, wH aH ct OH, wH aK ct SK, wDp gG SD] A below args s 0 0) A G 3 0 0 [wT aT (aH 200) ct ST_8, wH aH ct SH, wH aK ct SK, wDp gG SD] [(0, .ref (aT 200)), (1, .ref (aK 200)), (2, .int x2)] 64 []
        refine z_aload_n (pc := 64) (k0 := 0) E dX10_start_64 rfl rfl ?_
        refine z_iconst (pc := 65) (v := 0) E dX10_start_65 (by decide) ?_
        obtain ⟨ST_9, e_ST_9, hf⟩ := kL_e hf
        refine pT_6 (pc := 66) (i := 0) (S1 := ST_9) E rfl e_ST_9 wd_32_23 dX10_start_66 ?_
        show zJ p l e rm_X10_start s m args below meth c (zQ G ct none [wT aT (aH 200) ct OT, wH aH ct OH, wH aK ct SK, wDp gG SD] A below args s 0 0) A G 3 0 0 [wT aT (aH 200) ct ST_9, wH aH ct SH, wH aK ct SK, wDp gG SD] [(0, .ref (aT 200)), (1, .ref (aK 200)), (2, .int x2)] 69 []
        cases hf
        exact z_vret E hr dX10_start_69
      · have hf := kB_f hf c5
        refine z_aload_n (pc := 31) (k0 := 0) E dX10_start_31 rfl rfl ?_
        refine gT_1 (pc := 32) (i := 0) E rfl wd_3_6 dX10_start_32 ?_
        refine z_iload_n (pc := 35) (k0 := 2) E dX10_start_35 rfl rfl ?_
        refine z_iload_n (pc := 36) (k0 := 2) E dX10_start_36 rfl rfl ?_
        obtain ⟨c10, hf⟩ := kO_e hf
        obtain ⟨ST_11, e_ST_11, hf⟩ := kL_e hf
        refine sT_1 (pc := 37) (i := 0) (S1 := ST_11) E rfl c10 e_ST_11 dX10_start_37 ?_
        show zJ p l e rm_X10_start s m args below meth c (zQ G ct none [wT aT (aH 200) ct OT, wH aH ct OH, wH aK ct SK, wDp gG SD] A below args s 0 0) A G 3 0 0 [wT aT (aH 200) ct ST_11, wH aH ct SH, wH aK ct SK, wDp gG SD] [(0, .ref (aT 200)), (1, .ref (aK 200)), (2, .int x2)] 38 []
        obtain ⟨v12, e_v12, hf⟩ := kL_e hf
        refine z_iinc (pc := 38) (k0 := 2) (v := v12) (lv' := [(2, .int v12), (0, .ref (aT 200)), (1, .ref (aK 200))]) E dX10_start_38 rfl e_v12 (by decide) rfl ?_
        refine z_goto (pc := 41) (tgt := 23) E dX10_start_41 (by decide) ?_
        refine z_sub [1, 2, 0] (lv' := [(0, .ref (aT 200)), (1, .ref (aK 200)), (2, .int v12)]) rfl ?_
        exact ih23 ST_11 SH v12 hf
  unfold f_X10_start at hf
  refine z_aload_n (pc := 0) (k0 := 0) E dX10_start_0 rfl rfl ?_
  refine gT_0 (pc := 1) (i := 0) E rfl wd_3_5 dX10_start_1 ?_
  refine z_aload_n (pc := 4) (k0 := 1) E dX10_start_4 rfl rfl ?_
  obtain ⟨S_1, h2, hf⟩ := kC_e hf
  refine z_callV0 (pc := 5) (is := [1, 2, 3]) (n := 1) (As := [.ref (aK 200)]) (st := []) (st' := []) (C2 := [wT aT (aH 200) ct ST, wH aH ct S_1, wH aK ct SK, wDp gG SD]) E (c_X1_copy (l := l) (G := G) (ct := ct) (aH := aH) (aK := aK) (gG := gG) h2) wv_X1_copy wd_33_0 ⟨Nat.le_of_ble_eq_true rfl, Nat.le_of_ble_eq_true rfl, Nat.le_of_ble_eq_true rfl, Nat.le_of_ble_eq_true rfl⟩ rfl rfl rfl (by decide) rfl rfl (zrH (j := 0) rfl) rfl (Nat.le_of_ble_eq_true rfl) dX10_start_5 rfl rfl ?_
  refine z_aload_n (pc := 8) (k0 := 0) E dX10_start_8 rfl rfl ?_
  refine z_aload_n (pc := 9) (k0 := 1) E dX10_start_9 rfl rfl ?_
  refine gH_7 (pc := 10) (i := 2) E rfl wd_32_16 dX10_start_10 ?_
  refine z_bipush (pc := 13) (v := 7) E dX10_start_13 (by decide) ?_
  obtain ⟨v3, e_v3, hf⟩ := kL_e hf
  refine z_mmin (pc := 15) (v := v3) E wd_32_17 wd_22_12 wd_22_9 wd_22_13 ⟨Nat.le_of_ble_eq_true rfl, Nat.le_of_ble_eq_true rfl, Nat.le_of_ble_eq_true rfl, Nat.le_of_ble_eq_true rfl⟩ e_v3 dX10_start_15 ?_
  obtain ⟨ST_4, e_ST_4, hf⟩ := kL_e hf
  refine pT_2 (pc := 18) (i := 0) (S1 := ST_4) E rfl e_ST_4 wd_32_18 dX10_start_18 ?_
  show zJ p l e rm_X10_start s m args below meth c (zQ G ct none [wT aT (aH 200) ct OT, wH aH ct OH, wH aK ct SK, wDp gG SD] A below args s 0 0) A G 3 0 0 [wT aT (aH 200) ct ST_4, wH aH ct S_1, wH aK ct SK, wDp gG SD] [(0, .ref (aT 200)), (1, .ref (aK 200))] 21 []
  refine z_iconst (pc := 21) (v := 0) E dX10_start_21 (by decide) ?_
  refine z_istore_n (pc := 22) (lv' := [(2, .int 0), (0, .ref (aT 200)), (1, .ref (aK 200))]) E dX10_start_22 rfl (by decide) rfl ?_
  refine z_sub [1, 2, 0] (lv' := [(0, .ref (aT 200)), (1, .ref (aK 200)), (2, .int 0)]) rfl ?_
  exact L23 N ST_4 S_1 0 hf
