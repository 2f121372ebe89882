noncomputable def f_X1_person (SH : zHS) (a1 : Int32) : Option ((Option Nat)) := kB (a1 < 0) (some ((none : Option Nat))) (kB ((SH.1 8) ≤ a1) (some ((none : Option Nat))) (kB (4 ≤ a1) (some ((none : Option Nat))) (kO (¬ (a1 < 0 ∨ 4 ≤ Int32.toNatClampNeg a1)) (some ((SH.2.2.1 (Int32.toNatClampNeg a1)))))))
theorem wv_X1_person : zWV RX1 yX1_person cX1_person 2 (some (.object "MoreStory$Parent")) 1 := ⟨wd_11_11, wd_11_12, wd_1_15, wd_11_13, by decide +kernel⟩
def rm_X1_person : Room := { frames := 0, cells := 0, slots := 0, locals := 0 }
set_option maxHeartbeats 4000000 in
set_option maxRecDepth 100000 in
theorem c_X1_person {l : Launch} {G : va_G} {ct : Nat → ClassId} {aH : Nat → Nat} {SH : zHS} {a1 : Int32} {r0 : Option Nat} (hf : f_X1_person SH a1 = some r0) : zC l yX1_person cX1_person 2 (some (.object "MoreStory$Parent")) rm_X1_person G ct [.ref (aH 200), .int a1] [wH aH ct SH] [wH aH ct SH] (some (va_rf r0)) 0 0 := by
  refine z_enter (own := RX1) (lv := [(0, .ref (aH 200)), (1, .int a1)]) (by decide) rfl (Nat.le_of_ble_eq_true rfl) rfl ?_
  intro p e s m args below meth c A E hr hnm
  unfold f_X1_person at hf
  refine z_iload_n (pc := 0) (k0 := 1) E dX1_person_0 rfl rfl ?_
  refine z_if_lt (pc := 1) (tgt := 26) E dX1_person_1 (by decide) (fun c1 => ?_) (fun c1 => ?_)
  · have hf := kB_t hf c1
    refine z_null (pc := 26) E dX1_person_26 ?_
    cases hf
    exact z_aret (x := (none : Option Nat)) E hr dX1_person_27
  · have hf := kB_f hf c1
    refine z_iload_n (pc := 4) (k0 := 1) E dX1_person_4 rfl rfl ?_
    refine z_aload_n (pc := 5) (k0 := 0) E dX1_person_5 rfl rfl ?_
    refine gH_8 (pc := 6) (i := 0) E rfl wd_11_14 dX1_person_6 ?_
    refine z_icmp_ge (pc := 9) (tgt := 26) E dX1_person_9 (by decide) (fun c2 => ?_) (fun c2 => ?_)
    · have hf := kB_t hf c2
      refine z_null (pc := 26) E dX1_person_26 ?_
      cases hf
      exact z_aret (x := (none : Option Nat)) E hr dX1_person_27
    · have hf := kB_f hf c2
      refine z_iload_n (pc := 12) (k0 := 1) E dX1_person_12 rfl rfl ?_
      refine z_iconst (pc := 13) (v := 4) E dX1_person_13 (by decide) ?_
      refine z_icmp_ge (pc := 14) (tgt := 26) E dX1_person_14 (by decide) (fun c3 => ?_) (fun c3 => ?_)
      · have hf := kB_t hf c3
        refine z_null (pc := 26) E dX1_person_26 ?_
        cases hf
        exact z_aret (x := (none : Option Nat)) E hr dX1_person_27
      · have hf := kB_f hf c3
        refine z_aload_n (pc := 17) (k0 := 0) E dX1_person_17 rfl rfl ?_
        refine gH_3 (pc := 18) (i := 0) E rfl wd_2_18 dX1_person_18 ?_
        refine z_iload_n (pc := 21) (k0 := 1) E dX1_person_21 rfl rfl ?_
        obtain ⟨c4, hf⟩ := kO_e hf
        refine lH_3 (pc := 22) (i := 0) E rfl c4 dX1_person_22 ?_
        refine z_goto (pc := 23) (tgt := 27) E dX1_person_23 (by decide) ?_
        cases hf
        exact z_aret (x := (SH.2.2.1 (Int32.toNatClampNeg a1))) E hr dX1_person_27
noncomputable def f_X2_last_l5 (N : Nat) (SQ : zQS) : Nat → Int32 → Int32 → Int32 → Option Int32 := fun n => Nat.rec (motive := fun _ => Int32 → Int32 → Int32 → Option Int32) (fun _ _ _ => none) (fun _ ih x1 x3 x4 => kB ((Int32.ofNat (SQ.1 0)) ≤ x4) (some (x3)) (kO (¬ (x4 < 0 ∨ (SQ.1 0) ≤ Int32.toNatClampNeg x4)) (kB (((SQ.2 0) (Int32.toNatClampNeg x4)) = x1) (kO (¬ (x4 < 0 ∨ (SQ.1 1) ≤ Int32.toNatClampNeg x4)) (kL (x4 + 1) (fun v6 => ih x1 ((SQ.2 1) (Int32.toNatClampNeg x4)) v6))) (kL (x4 + 1) (fun v4 => ih x1 x3 v4))))) n
theorem f_X2_last_l5_z (N : Nat) (SQ : zQS) (x1 : Int32) (x3 : Int32) (x4 : Int32) : f_X2_last_l5 N SQ 0 x1 x3 x4 = none := rfl
theorem f_X2_last_l5_s (N : Nat) (SQ : zQS) (n : Nat) (x1 : Int32) (x3 : Int32) (x4 : Int32) : f_X2_last_l5 N SQ (n + 1) x1 x3 x4 = kB ((Int32.ofNat (SQ.1 0)) ≤ x4) (some (x3)) (kO (¬ (x4 < 0 ∨ (SQ.1 0) ≤ Int32.toNatClampNeg x4)) (kB (((SQ.2 0) (Int32.toNatClampNeg x4)) = x1) (kO (¬ (x4 < 0 ∨ (SQ.1 1) ≤ Int32.toNatClampNeg x4)) (kL (x4 + 1) (fun v6 => (f_X2_last_l5 N SQ n) x1 ((SQ.2 1) (Int32.toNatClampNeg x4)) v6))) (kL (x4 + 1) (fun v4 => (f_X2_last_l5 N SQ n) x1 x3 v4)))) := rfl
noncomputable def f_X2_last (N : Nat) (SQ : zQS) (a1 : Int32) (a2 : Int32) : Option Int32 := f_X2_last_l5 N SQ N a1 a2 0
theorem wv_X2_last : zWV RX2 yX2_last cX2_last 5 (some .int) 2 := ⟨wd_25_22, wd_25_23, wd_14_12, wd_26_0, by decide +kernel⟩
def rm_X2_last : Room := { frames := 0, cells := 0, slots := 0, locals := 0 }
set_option maxHeartbeats 4000000 in
set_option maxRecDepth 100000 in
theorem c_X2_last {l : Launch} {G : va_G} {ct : Nat → ClassId} {aQ : Nat → Nat} {N : Nat} {SQ : zQS} {a1 : Int32} {a2 : Int32} {r0 : Int32} (hf : f_X2_last N SQ a1 a2 = some r0) : zC l yX2_last cX2_last 5 (some .int) rm_X2_last G ct [.ref (aQ 200), .int a1, .int a2] [wQ aQ ct SQ] [wQ aQ ct SQ] (some (.int r0)) 0 0 := by
  refine z_enter (own := RX2) (lv := [(0, .ref (aQ 200)), (1, .int a1), (2, .int a2)]) (by decide) rfl (Nat.le_of_ble_eq_true rfl) rfl ?_
  intro p e s m args below meth c A E hr hnm
  have L5 : ∀ (n5 : Nat) (x1 : Int32) (x3 : Int32) (x4 : Int32), f_X2_last_l5 N SQ n5 x1 x3 x4 = some r0 → zJ p l e rm_X2_last s m args below meth c (zQ G ct (some (.int r0)) [wQ aQ ct SQ] A below args s 0 0) A G 5 0 0 [wQ aQ ct SQ] [(0, .ref (aQ 200)), (1, .int x1), (3, .int x3), (4, .int x4)] 5 [] := by
    intro n5
    induction n5 with
    | zero =>
      intro x1 x3 x4 hf
      rw [f_X2_last_l5_z] at hf
      cases hf
    | succ n5 ih5 =>
      intro x1 x3 x4 hf
      rw [f_X2_last_l5_s] at hf
      refine z_iload (pc := 5) (k0 := 3) E dX2_last_5 rfl ?_
      refine z_aload_n (pc := 7) (k0 := 0) E dX2_last_7 rfl rfl ?_
      refine gQ_0 (pc := 8) (i := 0) E rfl wd_15_1 dX2_last_8 ?_
      refine nQ_0 (pc := 11) (i := 0) E rfl dX2_last_11 ?_
      refine z_icmp_ge (pc := 12) (tgt := 40) E dX2_last_12 (by decide) (fun c1 => ?_) (fun c1 => ?_)
      · have hf := kB_t hf c1
        refine z_iload_n (pc := 40) (k0 := 2) E dX2_last_40 rfl rfl ?_
        cases hf
        exact z_iret E hr dX2_last_41
      · have hf := kB_f hf c1
        refine z_aload_n (pc := 15) (k0 := 0) E dX2_last_15 rfl rfl ?_
        refine gQ_0 (pc := 16) (i := 0) E rfl wd_15_1 dX2_last_16 ?_
        refine z_iload (pc := 19) (k0 := 3) E dX2_last_19 rfl ?_
        obtain ⟨c2, hf⟩ := kO_e hf
        refine lQ_0 (pc := 21) (i := 0) E rfl c2 dX2_last_21 ?_
        refine z_iload_n (pc := 22) (k0 := 1) E dX2_last_22 rfl rfl ?_
        refine z_icmp_ne (pc := 23) (tgt := 34) E dX2_last_23 (by decide) (fun c3 => ?_) (fun c3 => ?_)
        · have hf := kB_f hf c3
          obtain ⟨v4, e_v4, hf⟩ := kL_e hf
          refine z_iinc (pc := 34) (k0 := 3) (v := v4) (lv' := [(4, .int v4), (0, .ref (aQ 200)), (1, .int x1), (3, .int x3)]) E dX2_last_34 rfl e_v4 (by decide) rfl ?_
          refine z_goto (pc := 37) (tgt := 5) E dX2_last_37 (by decide) ?_
          refine z_sub [1, 2, 3, 0] (lv' := [(0, .ref (aQ 200)), (1, .int x1), (3, .int x3), (4, .int v4)]) rfl ?_
          exact ih5 x1 x3 v4 hf
        · have hf := kB_t hf c3
          refine z_aload_n (pc := 26) (k0 := 0) E dX2_last_26 rfl rfl ?_
          refine gQ_1 (pc := 27) (i := 0) E rfl wd_15_3 dX2_last_27 ?_
          refine z_iload (pc := 30) (k0 := 3) E dX2_last_30 rfl ?_
          obtain ⟨c5, hf⟩ := kO_e hf
          refine lQ_1 (pc := 32) (i := 0) E rfl c5 dX2_last_32 ?_
          refine z_istore_n (pc := 33) (lv' := [(3, .int ((SQ.2 1) (Int32.toNatClampNeg x4))), (0, .ref (aQ 200)), (1, .int x1), (4, .int x4)]) E dX2_last_33 rfl (by decide) rfl ?_
          obtain ⟨v6, e_v6, hf⟩ := kL_e hf
          refine z_iinc (pc := 34) (k0 := 3) (v := v6) (lv' := [(4, .int v6), (3, .int ((SQ.2 1) (Int32.toNatClampNeg x4))), (0, .ref (aQ 200)), (1, .int x1)]) E dX2_last_34 rfl e_v6 (by decide) rfl ?_
          refine z_goto (pc := 37) (tgt := 5) E dX2_last_37 (by decide) ?_
          refine z_sub [2, 3, 1, 0] (lv' := [(0, .ref (aQ 200)), (1, .int x1), (3, .int ((SQ.2 1) (Int32.toNatClampNeg x4))), (4, .int v6)]) rfl ?_
          exact ih5 x1 ((SQ.2 1) (Int32.toNatClampNeg x4)) v6 hf
  unfold f_X2_last at hf
  refine z_iload_n (pc := 0) (k0 := 2) E dX2_last_0 rfl rfl ?_
  refine z_istore_n (pc := 1) (lv' := [(3, .int a2), (0, .ref (aQ 200)), (1, .int a1), (2, .int a2)]) E dX2_last_1 rfl (by decide) rfl ?_
  refine z_iconst (pc := 2) (v := 0) E dX2_last_2 (by decide) ?_
  refine z_istore (pc := 3) (lv' := [(4, .int 0), (3, .int a2), (0, .ref (aQ 200)), (1, .int a1), (2, .int a2)]) E dX2_last_3 (by decide) rfl ?_
  refine z_sub [2, 3, 1, 0] (lv' := [(0, .ref (aQ 200)), (1, .int a1), (3, .int a2), (4, .int 0)]) rfl ?_
  exact L5 N a1 a2 0 hf
noncomputable def f_X1_hold (N : Nat) (SH : zHS) (SQ : zQS) (hq : Nat) : Option zHS := kL (hSH SH (some hq)) (fun SH_1 => kC (f_X2_last N SQ 2 60) (fun r2 => kL (hSI SH_1 18 r2) (fun SH_4 => kC (f_X2_last N SQ 3 30) (fun r5 => kL (hSI SH_4 19 r5) (fun SH_7 => some (SH_7))))))
theorem wv_X1_hold : zWV RX1 yX1_hold cX1_hold 2 none 1 := ⟨wd_25_18, wd_25_19, wd_1_15, wd_25_20, by decide +kernel⟩
def rm_X1_hold : Room := { frames := 1, cells := 0, slots := 0, locals := 24 }
set_option maxHeartbeats 4000000 in
set_option maxRecDepth 100000 in
theorem c_X1_hold {l : Launch} {G : va_G} {ct : Nat → ClassId} {aH : Nat → Nat} {aQ : Nat → Nat} {N : Nat} {SH : zHS} {SQ : zQS} {OH : zHS} (hf : f_X1_hold N SH SQ (aQ 200) = some OH) : zC l yX1_hold cX1_hold 2 none rm_X1_hold G ct [.ref (aH 200), .ref (aQ 200)] [wH aH ct SH, wQ aQ ct SQ] [wH aH ct OH, wQ aQ ct SQ] none 0 0 := by
  refine z_enter (own := RX1) (lv := [(0, .ref (aH 200)), (1, .ref (aQ 200))]) (by decide) rfl (Nat.le_of_ble_eq_true rfl) rfl ?_
  intro p e s m args below meth c A E hr hnm
  unfold f_X1_hold at hf
  refine z_aload_n (pc := 0) (k0 := 0) E dX1_hold_0 rfl rfl ?_
  refine z_aload_n (pc := 1) (k0 := 1) E dX1_hold_1 rfl rfl ?_
  obtain ⟨SH_1, e_SH_1, hf⟩ := kL_e hf
  refine pH_17 (pc := 2) (i := 0) (x := (some (aQ 200))) (S1 := SH_1) E rfl e_SH_1 wd_14_7 dX1_hold_2 ?_
  show zJ p l e rm_X1_hold s m args below meth c (zQ G ct none [wH aH ct OH, wQ aQ ct SQ] A below args s 0 0) A G 2 0 0 [wH aH ct SH_1, wQ aQ ct SQ] [(0, .ref (aH 200)), (1, .ref (aQ 200))] 5 []
  refine z_aload_n (pc := 5) (k0 := 0) E dX1_hold_5 rfl rfl ?_
  refine z_aload_n (pc := 6) (k0 := 1) E dX1_hold_6 rfl rfl ?_
  refine z_iconst (pc := 7) (v := 2) E dX1_hold_7 (by decide) ?_
  refine z_bipush (pc := 8) (v := 60) E dX1_hold_8 (by decide) ?_
  obtain ⟨r2, h3, hf⟩ := kC_e hf
  refine z_callV0 (pc := 10) (is := [1]) (n := 2) (As := [.int 2, .int 60]) (st := [.ref (aH 200)]) (st' := [.int r2, .ref (aH 200)]) (C2 := [wH aH ct SH_1, wQ aQ ct SQ]) E (c_X2_last (l := l) (G := G) (ct := ct) (aQ := aQ) h3) wv_X2_last wd_25_21 ⟨Nat.le_of_ble_eq_true rfl, Nat.le_of_ble_eq_true rfl, Nat.le_of_ble_eq_true rfl, Nat.le_of_ble_eq_true rfl⟩ rfl rfl rfl (by decide) rfl rfl (zrQ (j := 0) rfl) rfl (Nat.le_of_ble_eq_true rfl) dX1_hold_10 rfl rfl ?_
  obtain ⟨SH_4, e_SH_4, hf⟩ := kL_e hf
  refine pH_18 (pc := 13) (i := 0) (S1 := SH_4) E rfl e_SH_4 wd_2_23 dX1_hold_13 ?_
  show zJ p l e rm_X1_hold s m args below meth c (zQ G ct none [wH aH ct OH, wQ aQ ct SQ] A below args s 0 0) A G 2 0 0 [wH aH ct SH_4, wQ aQ ct SQ] [(0, .ref (aH 200)), (1, .ref (aQ 200))] 16 []
  refine z_aload_n (pc := 16) (k0 := 0) E dX1_hold_16 rfl rfl ?_
  refine z_aload_n (pc := 17) (k0 := 1) E dX1_hold_17 rfl rfl ?_
  refine z_iconst (pc := 18) (v := 3) E dX1_hold_18 (by decide) ?_
  refine z_bipush (pc := 19) (v := 30) E dX1_hold_19 (by decide) ?_
  obtain ⟨r5, h6, hf⟩ := kC_e hf
  refine z_callV0 (pc := 21) (is := [1]) (n := 2) (As := [.int 3, .int 30]) (st := [.ref (aH 200)]) (st' := [.int r5, .ref (aH 200)]) (C2 := [wH aH ct SH_4, wQ aQ ct SQ]) E (c_X2_last (l := l) (G := G) (ct := ct) (aQ := aQ) h6) wv_X2_last wd_25_21 ⟨Nat.le_of_ble_eq_true rfl, Nat.le_of_ble_eq_true rfl, Nat.le_of_ble_eq_true rfl, Nat.le_of_ble_eq_true rfl⟩ rfl rfl rfl (by decide) rfl rfl (zrQ (j := 0) rfl) rfl (Nat.le_of_ble_eq_true rfl) dX1_hold_21 rfl rfl ?_
  obtain ⟨SH_7, e_SH_7, hf⟩ := kL_e hf
  refine pH_19 (pc := 24) (i := 0) (S1 := SH_7) E rfl e_SH_7 wd_3_0 dX1_hold_24 ?_
  show zJ p l e rm_X1_hold s m args below meth c (zQ G ct none [wH aH ct OH, wQ aQ ct SQ] A below args s 0 0) A G 2 0 0 [wH aH ct SH_7, wQ aQ ct SQ] [(0, .ref (aH 200)), (1, .ref (aQ 200))] 27 []
  cases hf
  exact z_vret E hr dX1_hold_27
noncomputable def f_X1_how (SH : zHS) : Option Int32 := kB ((SH.1 12) < (SH.1 19)) (kB ((SH.1 11) < (SH.1 18)) (some (0)) (some (2))) (some (1))
theorem wv_X1_how : zWV RX1 yX1_how cX1_how 1 (some .int) 0 := ⟨wd_29_2, wd_29_3, wd_1_15, wd_29_4, by decide +kernel⟩
def rm_X1_how : Room := { frames := 0, cells := 0, slots := 0, locals := 0 }
set_option maxHeartbeats 4000000 in
set_option maxRecDepth 100000 in
theorem c_X1_how {l : Launch} {G : va_G} {ct : Nat → ClassId} {aH : Nat → Nat} {SH : zHS} {r0 : Int32} (hf : f_X1_how SH = some r0) : zC l yX1_how cX1_how 1 (some .int) rm_X1_how G ct [.ref (aH 200)] [wH aH ct SH] [wH aH ct SH] (some (.int r0)) 0 0 := by
  refine z_enter (own := RX1) (lv := [(0, .ref (aH 200))]) (by decide) rfl (Nat.le_of_ble_eq_true rfl) rfl ?_
  intro p e s m args below meth c A E hr hnm
  unfold f_X1_how at hf
  refine z_aload_n (pc := 0) (k0 := 0) E dX1_how_0 rfl rfl ?_
  refine gH_12 (pc := 1) (i := 0) E rfl wd_29_5 dX1_how_1 ?_
  refine z_aload_n (pc := 4) (k0 := 0) E dX1_how_4 rfl rfl ?_
  refine gH_19 (pc := 5) (i := 0) E rfl wd_3_0 dX1_how_5 ?_
  refine z_icmp_lt (pc := 8) (tgt := 13) E dX1_how_8 (by decide) (fun c1 => ?_) (fun c1 => ?_)
  · have hf := kB_t hf c1
    refine z_aload_n (pc := 13) (k0 := 0) E dX1_how_13 rfl rfl ?_
    refine gH_11 (pc := 14) (i := 0) E rfl wd_29_6 dX1_how_14 ?_
    refine z_aload_n (pc := 17) (k0 := 0) E dX1_how_17 rfl rfl ?_
    refine gH_18 (pc := 18) (i := 0) E rfl wd_2_23 dX1_how_18 ?_
    refine z_icmp_lt (pc := 21) (tgt := 28) E dX1_how_21 (by decide) (fun c2 => ?_) (fun c2 => ?_)
    · have hf := kB_t hf c2
      refine z_iconst (pc := 28) (v := 0) E dX1_how_28 (by decide) ?_
      cases hf
      exact z_iret E hr dX1_how_29
    · have hf := kB_f hf c2
      refine z_iconst (pc := 24) (v := 2) E dX1_how_24 (by decide) ?_
      refine z_goto (pc := 25) (tgt := 29) E dX1_how_25 (by decide) ?_
      cases hf
      exact z_iret E hr dX1_how_29
  · have hf := kB_f hf c1
    refine z_iconst (pc := 11) (v := 1) E dX1_how_11 (by decide) ?_
    cases hf
    exact z_iret E hr dX1_how_12
noncomputable def f_X2_look (SQ : zQS) (SP : zPS) (SH : zHS) (a2 : Int32) : Option zQS := kO (¬ ((0 : Int32) < 0 ∨ (SQ.1 4) ≤ Int32.toNatClampNeg 0)) (kL (qSA SQ 4 (upd (SQ.2 4) (Int32.toNatClampNeg 0) (SP.2.1))) (fun SQ_2 => kO (¬ ((1 : Int32) < 0 ∨ (SQ_2.1 4) ≤ Int32.toNatClampNeg 1)) (kL (qSA SQ_2 4 (upd (SQ_2.2 4) (Int32.toNatClampNeg 1) (SP.1))) (fun SQ_4 => kO (¬ ((2 : Int32) < 0 ∨ (SQ_4.1 4) ≤ Int32.toNatClampNeg 2)) (kL (qSA SQ_4 4 (upd (SQ_4.2 4) (Int32.toNatClampNeg 2) a2)) (fun SQ_6 => kL ((SH.1 11) / 10) (fun v7 => kO (¬ ((3 : Int32) < 0 ∨ (SQ_6.1 4) ≤ Int32.toNatClampNeg 3)) (kL (qSA SQ_6 4 (upd (SQ_6.2 4) (Int32.toNatClampNeg 3) v7)) (fun SQ_9 => kO (¬ ((4 : Int32) < 0 ∨ (SQ_9.1 4) ≤ Int32.toNatClampNeg 4)) (kL (qSA SQ_9 4 (upd (SQ_9.2 4) (Int32.toNatClampNeg 4) (SH.1 13))) (fun SQ_11 => kC (f_X1_has SH a2) (fun r12 => kB (r12 = 0) (kO (¬ ((5 : Int32) < 0 ∨ (SQ_11.1 4) ≤ Int32.toNatClampNeg 5)) (kL (qSA SQ_11 4 (upd (SQ_11.2 4) (Int32.toNatClampNeg 5) 0)) (fun SQ_16 => some (SQ_16)))) (kO (¬ (a2 < 0 ∨ 7 ≤ Int32.toNatClampNeg a2)) (kL (((SH.2.1 2) (Int32.toNatClampNeg a2)) - ((SH.2.1 2) (Int32.toNatClampNeg a2)) / 100 * 100) (fun v18 => kO (¬ ((5 : Int32) < 0 ∨ (SQ_11.1 4) ≤ Int32.toNatClampNeg 5)) (kL (qSA SQ_11 4 (upd (SQ_11.2 4) (Int32.toNatClampNeg 5) v18)) (fun SQ_20 => some (SQ_20))))))))))))))))))
theorem wv_X2_look : zWV RX2 yX2_look cX2_look 4 none 3 := ⟨wd_14_10, wd_14_11, wd_14_12, wd_14_13, by decide +kernel⟩
def rm_X2_look : Room := { frames := 1, cells := 0, slots := 0, locals := 21 }
set_option maxHeartbeats 4000000 in
set_option maxRecDepth 100000 in
theorem c_X2_look {l : Launch} {G : va_G} {ct : Nat → ClassId} {aQ : Nat → Nat} {gG : Nat} {aP : Nat} {aH : Nat → Nat} {SQ : zQS} {SP : zPS} {SH : zHS} {a2 : Int32} {OQ : zQS} (hf : f_X2_look SQ SP SH a2 = some OQ) : zC l yX2_look cX2_look 4 none rm_X2_look G ct [.ref (aQ 200), .ref aP, .int a2, .ref (aH 200)] [wQ aQ ct SQ, wPa gG aP SP, wH aH ct SH] [wQ aQ ct OQ, wPa gG aP SP, wH aH ct SH] none 0 0 := by
  refine z_enter (own := RX2) (lv := [(0, .ref (aQ 200)), (1, .ref aP), (2, .int a2), (3, .ref (aH 200))]) (by decide) rfl (Nat.le_of_ble_eq_true rfl) rfl ?_
  intro p e s m args below meth c A E hr hnm
  unfold f_X2_look at hf
  refine z_aload_n (pc := 0) (k0 := 0) E dX2_look_0 rfl rfl ?_
  refine gQ_4 (pc := 1) (i := 0) E rfl wd_14_14 dX2_look_1 ?_
  refine z_iconst (pc := 4) (v := 0) E dX2_look_4 (by decide) ?_
  refine z_aload_n (pc := 5) (k0 := 1) E dX2_look_5 rfl rfl ?_
  refine gP_1 (pc := 6) (i := 1) E rfl wd_14_15 (fun _ h => h) dX2_look_6 ?_
  obtain ⟨c1, hf⟩ := kO_e hf
  obtain ⟨SQ_2, e_SQ_2, hf⟩ := kL_e hf
  refine sQ_4 (pc := 9) (i := 0) (S1 := SQ_2) E rfl c1 e_SQ_2 dX2_look_9 ?_
  show zJ p l e rm_X2_look s m args below meth c (zQ G ct none [wQ aQ ct OQ, wPa gG aP SP, wH aH ct SH] A below args s 0 0) A G 4 0 0 [wQ aQ ct SQ_2, wPa gG aP SP, wH aH ct SH] [(0, .ref (aQ 200)), (1, .ref aP), (2, .int a2), (3, .ref (aH 200))] 10 []
  refine z_aload_n (pc := 10) (k0 := 0) E dX2_look_10 rfl rfl ?_
  refine gQ_4 (pc := 11) (i := 0) E rfl wd_14_14 dX2_look_11 ?_
  refine z_iconst (pc := 14) (v := 1) E dX2_look_14 (by decide) ?_
  refine z_aload_n (pc := 15) (k0 := 1) E dX2_look_15 rfl rfl ?_
  refine gP_0 (pc := 16) (i := 1) E rfl wd_14_16 (fun _ h => h) dX2_look_16 ?_
  obtain ⟨c3, hf⟩ := kO_e hf
  obtain ⟨SQ_4, e_SQ_4, hf⟩ := kL_e hf
  refine sQ_4 (pc := 19) (i := 0) (S1 := SQ_4) E rfl c3 e_SQ_4 dX2_look_19 ?_
  show zJ p l e rm_X2_look s m args below meth c (zQ G ct none [wQ aQ ct OQ, wPa gG aP SP, wH aH ct SH] A below args s 0 0) A G 4 0 0 [wQ aQ ct SQ_4, wPa gG aP SP, wH aH ct SH] [(0, .ref (aQ 200)), (1, .ref aP), (2, .int a2), (3, .ref (aH 200))] 20 []
  refine z_aload_n (pc := 20) (k0 := 0) E dX2_look_20 rfl rfl ?_
  refine gQ_4 (pc := 21) (i := 0) E rfl wd_14_14 dX2_look_21 ?_
  refine z_iconst (pc := 24) (v := 2) E dX2_look_24 (by decide) ?_
  refine z_iload_n (pc := 25) (k0 := 2) E dX2_look_25 rfl rfl ?_
  obtain ⟨c5, hf⟩ := kO_e hf
  obtain ⟨SQ_6, e_SQ_6, hf⟩ := kL_e hf
  refine sQ_4 (pc := 26) (i := 0) (S1 := SQ_6) E rfl c5 e_SQ_6 dX2_look_26 ?_
  show zJ p l e rm_X2_look s m args below meth c (zQ G ct none [wQ aQ ct OQ, wPa gG aP SP, wH aH ct SH] A below args s 0 0) A G 4 0 0 [wQ aQ ct SQ_6, wPa gG aP SP, wH aH ct SH] [(0, .ref (aQ 200)), (1, .ref aP), (2, .int a2), (3, .ref (aH 200))] 27 []
  refine z_aload_n (pc := 27) (k0 := 0) E dX2_look_27 rfl rfl ?_
  refine gQ_4 (pc := 28) (i := 0) E rfl wd_14_14 dX2_look_28 ?_
  refine z_iconst (pc := 31) (v := 3) E dX2_look_31 (by decide) ?_
  refine z_aload_n (pc := 32) (k0 := 3) E dX2_look_32 rfl rfl ?_
  refine gH_11 (pc := 33) (i := 2) E rfl wd_14_17 dX2_look_33 ?_
  refine z_bipush (pc := 36) (v := 10) E dX2_look_36 (by decide) ?_
  obtain ⟨v7, e_v7, hf⟩ := kL_e hf
  refine z_idiv (pc := 38) (v := v7) E dX2_look_38 (by decide) e_v7 ?_
  obtain ⟨c8, hf⟩ := kO_e hf
  obtain ⟨SQ_9, e_SQ_9, hf⟩ := kL_e hf
  refine sQ_4 (pc := 39) (i := 0) (S1 := SQ_9) E rfl c8 e_SQ_9 dX2_look_39 ?_
  show zJ p l e rm_X2_look s m args below meth c (zQ G ct none [wQ aQ ct OQ, wPa gG aP SP, wH aH ct SH] A below args s 0 0) A G 4 0 0 [wQ aQ ct SQ_9, wPa gG aP SP, wH aH ct SH] [(0, .ref (aQ 200)), (1, .ref aP), (2, .int a2), (3, .ref (aH 200))] 40 []
  refine z_aload_n (pc := 40) (k0 := 0) E dX2_look_40 rfl rfl ?_
  refine gQ_4 (pc := 41) (i := 0) E rfl wd_14_14 dX2_look_41 ?_
  refine z_iconst (pc := 44) (v := 4) E dX2_look_44 (by decide) ?_
  refine z_aload_n (pc := 45) (k0 := 3) E dX2_look_45 rfl rfl ?_
  refine gH_13 (pc := 46) (i := 2) E rfl wd_14_18 dX2_look_46 ?_
  obtain ⟨c10, hf⟩ := kO_e hf
  obtain ⟨SQ_11, e_SQ_11, hf⟩ := kL_e hf
  refine sQ_4 (pc := 49) (i := 0) (S1 := SQ_11) E rfl c10 e_SQ_11 dX2_look_49 ?_
  show zJ p l e rm_X2_look s m args below meth c (zQ G ct none [wQ aQ ct OQ, wPa gG aP SP, wH aH ct SH] A below args s 0 0) A G 4 0 0 [wQ aQ ct SQ_11, wPa gG aP SP, wH aH ct SH] [(0, .ref (aQ 200)), (1, .ref aP), (2, .int a2), (3, .ref (aH 200))] 50 []
  refine z_aload_n (pc := 50) (k0 := 0) E dX2_look_50 rfl rfl ?_
  refine gQ_4 (pc := 51) (i := 0) E rfl wd_14_14 dX2_look_51 ?_
  refine z_iconst (pc := 54) (v := 5) E dX2_look_54 (by decide) ?_
  refine z_aload_n (pc := 55) (k0 := 3) E dX2_look_55 rfl rfl ?_
  refine z_iload_n (pc := 56) (k0 := 2) E dX2_look_56 rfl rfl ?_
  obtain ⟨r12, h13, hf⟩ := kC_e hf
  refine z_callV0 (pc := 57) (is := [2]) (n := 1) (As := [.int a2]) (st := [.int 5, .ref (aQ 4)]) (st' := [.int r12, .int 5, .ref (aQ 4)]) (C2 := [wQ aQ ct SQ_11, wPa gG aP SP, wH aH ct SH]) E (c_X1_has (l := l) (G := G) (ct := ct) (aH := aH) h13) wv_X1_has wd_14_20 ⟨Nat.le_of_ble_eq_true rfl, Nat.le_of_ble_eq_true rfl, Nat.le_of_ble_eq_true rfl, Nat.le_of_ble_eq_true rfl⟩ rfl rfl rfl (by decide) rfl rfl (zrH (j := 0) rfl) rfl (Nat.le_of_ble_eq_true rfl) dX2_look_57 rfl rfl ?_
  refine z_if_eq (pc := 60) (tgt := 75) E dX2_look_60 (by decide) (fun c14 => ?_) (fun c14 => ?_)
  · have hf := kB_t hf c14
    refine z_iconst (pc := 75) (v := 0) E dX2_look_75 (by decide) ?_
    obtain ⟨c15, hf⟩ := kO_e hf
    obtain ⟨SQ_16, e_SQ_16, hf⟩ := kL_e hf
    refine sQ_4 (pc := 76) (i := 0) (S1 := SQ_16) E rfl c15 e_SQ_16 dX2_look_76 ?_
    show zJ p l e rm_X2_look s m args below meth c (zQ G ct none [wQ aQ ct OQ, wPa gG aP SP, wH aH ct SH] A below args s 0 0) A G 4 0 0 [wQ aQ ct SQ_16, wPa gG aP SP, wH aH ct SH] [(0, .ref (aQ 200)), (1, .ref aP), (2, .int a2), (3, .ref (aH 200))] 77 []
    cases hf
    exact z_vret E hr dX2_look_77
  · have hf := kB_f hf c14
    refine z_aload_n (pc := 63) (k0 := 3) E dX2_look_63 rfl rfl ?_
    refine gH_2 (pc := 64) (i := 2) E rfl wd_14_19 dX2_look_64 ?_
    refine z_iload_n (pc := 67) (k0 := 2) E dX2_look_67 rfl rfl ?_
    obtain ⟨c17, hf⟩ := kO_e hf
    refine lH_2 (pc := 68) (i := 2) E rfl c17 dX2_look_68 ?_
    refine z_bipush (pc := 69) (v := 100) E dX2_look_69 (by decide) ?_
    obtain ⟨v18, e_v18, hf⟩ := kL_e hf
    refine z_irem (pc := 71) (v := v18) E dX2_look_71 (by decide) e_v18 ?_
    refine z_goto (pc := 72) (tgt := 76) E dX2_look_72 (by decide) ?_
    obtain ⟨c19, hf⟩ := kO_e hf
    obtain ⟨SQ_20, e_SQ_20, hf⟩ := kL_e hf
    refine sQ_4 (pc := 76) (i := 0) (S1 := SQ_20) E rfl c19 e_SQ_20 dX2_look_76 ?_
    show zJ p l e rm_X2_look s m args below meth c (zQ G ct none [wQ aQ ct OQ, wPa gG aP SP, wH aH ct SH] A below args s 0 0) A G 4 0 0 [wQ aQ ct SQ_20, wPa gG aP SP, wH aH ct SH] [(0, .ref (aQ 200)), (1, .ref aP), (2, .int a2), (3, .ref (aH 200))] 77 []
    cases hf
    exact z_vret E hr dX2_look_77
noncomputable def f_X2_holds_b203 (N : Nat) (SQ : zQS) (x3 : Int32) : Option Int32 := kL (x3 &&& 1) (fun v24 => kB (v24 = 1) (some (1)) (some (0)))
noncomputable def f_X2_holds_b174 (N : Nat) (SQ : zQS) (k5 : Int32 → Int32 → Int32 → Option Int32) (x2 : Int32) (x3 : Int32) (x4 : Int32) (x5 : Int32) (y0 : Int32) : Option Int32 := kL (x3 <<< (1 &&& 31)) (fun v28 => kL (x5 >>> (5 &&& 31)) (fun v29 => kL (v29 &&& 3) (fun v30 => kB (y0 = v30) (kL (v28 ||| 1) (fun v34 => kL (x4 + 1) (fun v35 => k5 x2 v34 v35))) (kL (v28 ||| 0) (fun v32 => kL (x4 + 1) (fun v33 => k5 x2 v32 v33))))))
noncomputable def f_X2_holds_b149 (N : Nat) (SQ : zQS) (k5 : Int32 → Int32 → Int32 → Option Int32) (x2 : Int32) (x3 : Int32) (x4 : Int32) (x5 : Int32) (x9 : Int32) (y0 : Int32) : Option Int32 := kB (x9 ≤ y0) (kB (y0 = x9) (f_X2_holds_b174 N SQ k5 x2 x3 x4 x5 1) (f_X2_holds_b174 N SQ k5 x2 x3 x4 x5 2)) (f_X2_holds_b174 N SQ k5 x2 x3 x4 x5 0)
noncomputable def f_X2_holds_l5 (N : Nat) (SQ : zQS) : Nat → Int32 → Int32 → Int32 → Option Int32 := fun n => Nat.rec (motive := fun _ => Int32 → Int32 → Int32 → Option Int32) (fun _ _ _ => none) (fun _ ih x2 x3 x4 => kB (x4 < 0) (f_X2_holds_b203 N SQ x3) (kB (x2 ≤ x4) (f_X2_holds_b203 N SQ x3) (kB ((Int32.ofNat (SQ.1 3)) ≤ x4) (f_X2_holds_b203 N SQ x3) (kO (¬ (x4 < 0 ∨ (SQ.1 3) ≤ Int32.toNatClampNeg x4)) (kL (x3 &&& 1) (fun v5 => kL ((x3.toUInt32 >>> ((1 : Int32).toUInt32 &&& Int32.toUInt32 31)).toInt32) (fun v6 => kL (((SQ.2 3) (Int32.toNatClampNeg x4)) &&& 3) (fun v7 => kB (v7 = 1) (kL (x3 ^^^ 1) (fun v9 => kL (x4 + 1) (fun v10 => ih x2 v9 v10))) (kB (v7 = 2) (kB (v5 = 1) (kL (x4 + 1) (fun v15 => ih x2 v6 v15)) (kL (v6 &&& (-2)) (fun v13 => kL (x4 + 1) (fun v14 => ih x2 v13 v14)))) (kB (v7 = 3) (kL (v6 ||| v5) (fun v17 => kL (x4 + 1) (fun v18 => ih x2 v17 v18))) (kL (((SQ.2 3) (Int32.toNatClampNeg x4)) >>> (2 &&& 31)) (fun v19 => kL (v19 &&& 7) (fun v20 => kL (((SQ.2 3) (Int32.toNatClampNeg x4)) >>> (7 &&& 31)) (fun v21 => kB ((Int32.ofNat (SQ.1 4)) ≤ v20) (f_X2_holds_b149 N SQ ih x2 x3 x4 ((SQ.2 3) (Int32.toNatClampNeg x4)) v21 0) (kO (¬ (v20 < 0 ∨ (SQ.1 4) ≤ Int32.toNatClampNeg v20)) (f_X2_holds_b149 N SQ ih x2 x3 x4 ((SQ.2 3) (Int32.toNatClampNeg x4)) v21 ((SQ.2 4) (Int32.toNatClampNeg v20)))))))))))))))))) n
theorem f_X2_holds_l5_z (N : Nat) (SQ : zQS) (x2 : Int32) (x3 : Int32) (x4 : Int32) : f_X2_holds_l5 N SQ 0 x2 x3 x4 = none := rfl
theorem f_X2_holds_l5_s (N : Nat) (SQ : zQS) (n : Nat) (x2 : Int32) (x3 : Int32) (x4 : Int32) : f_X2_holds_l5 N SQ (n + 1) x2 x3 x4 = kB (x4 < 0) (f_X2_holds_b203 N SQ x3) (kB (x2 ≤ x4) (f_X2_holds_b203 N SQ x3) (kB ((Int32.ofNat (SQ.1 3)) ≤ x4) (f_X2_holds_b203 N SQ x3) (kO (¬ (x4 < 0 ∨ (SQ.1 3) ≤ Int32.toNatClampNeg x4)) (kL (x3 &&& 1) (fun v5 => kL ((x3.toUInt32 >>> ((1 : Int32).toUInt32 &&& Int32.toUInt32 31)).toInt32) (fun v6 => kL (((SQ.2 3) (Int32.toNatClampNeg x4)) &&& 3) (fun v7 => kB (v7 = 1) (kL (x3 ^^^ 1) (fun v9 => kL (x4 + 1) (fun v10 => (f_X2_holds_l5 N SQ n) x2 v9 v10))) (kB (v7 = 2) (kB (v5 = 1) (kL (x4 + 1) (fun v15 => (f_X2_holds_l5 N SQ n) x2 v6 v15)) (kL (v6 &&& (-2)) (fun v13 => kL (x4 + 1) (fun v14 => (f_X2_holds_l5 N SQ n) x2 v13 v14)))) (kB (v7 = 3) (kL (v6 ||| v5) (fun v17 => kL (x4 + 1) (fun v18 => (f_X2_holds_l5 N SQ n) x2 v17 v18))) (kL (((SQ.2 3) (Int32.toNatClampNeg x4)) >>> (2 &&& 31)) (fun v19 => kL (v19 &&& 7) (fun v20 => kL (((SQ.2 3) (Int32.toNatClampNeg x4)) >>> (7 &&& 31)) (fun v21 => kB ((Int32.ofNat (SQ.1 4)) ≤ v20) (f_X2_holds_b149 N SQ (f_X2_holds_l5 N SQ n) x2 x3 x4 ((SQ.2 3) (Int32.toNatClampNeg x4)) v21 0) (kO (¬ (v20 < 0 ∨ (SQ.1 4) ≤ Int32.toNatClampNeg v20)) (f_X2_holds_b149 N SQ (f_X2_holds_l5 N SQ n) x2 x3 x4 ((SQ.2 3) (Int32.toNatClampNeg x4)) v21 ((SQ.2 4) (Int32.toNatClampNeg v20))))))))))))))))) := rfl
noncomputable def f_X2_holds (N : Nat) (SQ : zQS) (a1 : Int32) (a2 : Int32) : Option Int32 := f_X2_holds_l5 N SQ N a2 0 a1
theorem wv_X2_holds : zWV RX2 yX2_holds cX2_holds 12 (some .boolean) 2 := ⟨wd_15_5, wd_15_6, wd_14_12, wd_15_7, by decide +kernel⟩
def rm_X2_holds : Room := { frames := 0, cells := 0, slots := 0, locals := 0 }
set_option maxHeartbeats 4000000 in
set_option maxRecDepth 100000 in
theorem c_X2_holds {l : Launch} {G : va_G} {ct : Nat → ClassId} {aQ : Nat → Nat} {N : Nat} {SQ : zQS} {a1 : Int32} {a2 : Int32} {r0 : Int32} (hf : f_X2_holds N SQ a1 a2 = some r0) : zC l yX2_holds cX2_holds 12 (some .boolean) rm_X2_holds G ct [.ref (aQ 200), .int a1, .int a2] [wQ aQ ct SQ] [wQ aQ ct SQ] (some (.int r0)) 0 0 := by
  refine z_enter (own := RX2) (lv := [(0, .ref (aQ 200)), (1, .int a1), (2, .int a2)]) (by decide) rfl (Nat.le_of_ble_eq_true rfl) rfl ?_
  intro p e s m args below meth c A E hr hnm
  have B203 : ∀ (x3 : Int32), f_X2_holds_b203 N SQ x3 = some r0 → zJ p l e rm_X2_holds s m args below meth c (zQ G ct (some (.int r0)) [wQ aQ ct SQ] A below args s 0 0) A G 12 0 0 [wQ aQ ct SQ] [(3, .int x3)] 203 [] := by
    intro x3 hf
    unfold f_X2_holds_b203 at hf
    refine z_iload_n (pc := 203) (k0 := 0) E dX2_holds_203 rfl rfl ?_
    refine z_iconst (pc := 204) (v := 1) E dX2_holds_204 (by decide) ?_
    obtain ⟨v24, e_v24, hf⟩ := kL_e hf
    refine z_iand (pc := 205) (v := v24) E dX2_holds_205 e_v24 ?_
    refine z_iconst (pc := 206) (v := 1) E dX2_holds_206 (by decide) ?_
    refine z_icmp_ne (pc := 207) (tgt := 214) E dX2_holds_207 (by decide) (fun c25 => ?_) (fun c25 => ?_)
    · have hf := kB_f hf c25
      refine z_iconst (pc := 214) (v := 0) E dX2_holds_214 (by decide) ?_
      cases hf
      exact z_zret E hr (by decide) dX2_holds_215
    · have hf := kB_t hf c25
      refine z_iconst (pc := 210) (v := 1) E dX2_holds_210 (by decide) ?_
      refine z_goto (pc := 211) (tgt := 215) E dX2_holds_211 (by decide) ?_
      cases hf
      exact z_zret E hr (by decide) dX2_holds_215
  have L5 : ∀ (n5 : Nat) (x2 : Int32) (x3 : Int32) (x4 : Int32), f_X2_holds_l5 N SQ n5 x2 x3 x4 = some r0 → zJ p l e rm_X2_holds s m args below meth c (zQ G ct (some (.int r0)) [wQ aQ ct SQ] A below args s 0 0) A G 12 0 0 [wQ aQ ct SQ] [(0, .ref (aQ 200)), (2, .int x2), (3, .int x3), (4, .int x4)] 5 [] := by
    intro n5
    induction n5 with
    | zero =>
      intro x2 x3 x4 hf
      rw [f_X2_holds_l5_z] at hf
      cases hf
    | succ n5 ih5 =>
      have B174 : ∀ (x2 : Int32) (x3 : Int32) (x4 : Int32) (x5 : Int32) (y0 : Int32), f_X2_holds_b174 N SQ (f_X2_holds_l5 N SQ n5) x2 x3 x4 x5 y0 = some r0 → zJ p l e rm_X2_holds s m args below meth c (zQ G ct (some (.int r0)) [wQ aQ ct SQ] A below args s 0 0) A G 12 0 0 [wQ aQ ct SQ] [(0, .ref (aQ 200)), (2, .int x2), (3, .int x3), (4, .int x4), (5, .int x5)] 174 [.int y0] := by
        intro x2 x3 x4 x5 y0 hf
        unfold f_X2_holds_b174 at hf
        refine z_istore (pc := 174) (lv' := [(11, .int y0), (0, .ref (aQ 200)), (2, .int x2), (3, .int x3), (4, .int x4), (5, .int x5)]) E dX2_holds_174 (by decide) rfl ?_
        refine z_iload_n (pc := 176) (k0 := 3) E dX2_holds_176 rfl rfl ?_
        refine z_iconst (pc := 177) (v := 1) E dX2_holds_177 (by decide) ?_
        obtain ⟨v28, e_v28, hf⟩ := kL_e hf
        refine z_ishl (pc := 178) (v := v28) E dX2_holds_178 e_v28 ?_
        refine z_iload (pc := 179) (k0 := 0) E dX2_holds_179 rfl ?_
        refine z_iload (pc := 181) (k0 := 5) E dX2_holds_181 rfl ?_
        refine z_iconst (pc := 183) (v := 5) E dX2_holds_183 (by decide) ?_
        obtain ⟨v29, e_v29, hf⟩ := kL_e hf
        refine z_ishr (pc := 184) (v := v29) E dX2_holds_184 e_v29 ?_
        refine z_iconst (pc := 185) (v := 3) E dX2_holds_185 (by decide) ?_
        obtain ⟨v30, e_v30, hf⟩ := kL_e hf
        refine z_iand (pc := 186) (v := v30) E dX2_holds_186 e_v30 ?_
        refine z_icmp_ne (pc := 187) (tgt := 194) E dX2_holds_187 (by decide) (fun c31 => ?_) (fun c31 => ?_)
        · have hf := kB_f hf c31
          refine z_iconst (pc := 194) (v := 0) E dX2_holds_194 (by decide) ?_
          obtain ⟨v32, e_v32, hf⟩ := kL_e hf
          refine z_ior (pc := 195) (v := v32) E dX2_holds_195 e_v32 ?_
          refine z_istore_n (pc := 196) (lv' := [(3, .int v32), (11, .int y0), (0, .ref (aQ 200)), (2, .int x2), (4, .int x4), (5, .int x5)]) E dX2_holds_196 rfl (by decide) rfl ?_
          obtain ⟨v33, e_v33, hf⟩ := kL_e hf
          refine z_iinc (pc := 197) (k0 := 4) (v := v33) (lv' := [(4, .int v33), (3, .int v32), (11, .int y0), (0, .ref (aQ 200)), (2, .int x2), (5, .int x5)]) E dX2_holds_197 rfl e_v33 (by decide) rfl ?_
          refine z_goto (pc := 200) (tgt := 5) E dX2_holds_200 (by decide) ?_
          refine z_sub [3, 4, 1, 0] (lv' := [(0, .ref (aQ 200)), (2, .int x2), (3, .int v32), (4, .int v33)]) rfl ?_
          exact ih5 x2 v32 v33 hf
        · have hf := kB_t hf c31
          refine z_iconst (pc := 190) (v := 1) E dX2_holds_190 (by decide) ?_
          refine z_goto (pc := 191) (tgt := 195) E dX2_holds_191 (by decide) ?_
          obtain ⟨v34, e_v34, hf⟩ := kL_e hf
          refine z_ior (pc := 195) (v := v34) E dX2_holds_195 e_v34 ?_
          refine z_istore_n (pc := 196) (lv' := [(3, .int v34), (11, .int y0), (0, .ref (aQ 200)), (2, .int x2), (4, .int x4), (5, .int x5)]) E dX2_holds_196 rfl (by decide) rfl ?_
          obtain ⟨v35, e_v35, hf⟩ := kL_e hf
          refine z_iinc (pc := 197) (k0 := 4) (v := v35) (lv' := [(4, .int v35), (3, .int v34), (11, .int y0), (0, .ref (aQ 200)), (2, .int x2), (5, .int x5)]) E dX2_holds_197 rfl e_v35 (by decide) rfl ?_
          refine z_goto (pc := 200) (tgt := 5) E dX2_holds_200 (by decide) ?_
          refine z_sub [3, 4, 1, 0] (lv' := [(0, .ref (aQ 200)), (2, .int x2), (3, .int v34), (4, .int v35)]) rfl ?_
          exact ih5 x2 v34 v35 hf
      have B149 : ∀ (x2 : Int32) (x3 : Int32) (x4 : Int32) (x5 : Int32) (x9 : Int32) (y0 : Int32), f_X2_holds_b149 N SQ (f_X2_holds_l5 N SQ n5) x2 x3 x4 x5 x9 y0 = some r0 → zJ p l e rm_X2_holds s m args below meth c (zQ G ct (some (.int r0)) [wQ aQ ct SQ] A below args s 0 0) A G 12 0 0 [wQ aQ ct SQ] [(0, .ref (aQ 200)), (2, .int x2), (3, .int x3), (4, .int x4), (5, .int x5), (9, .int x9)] 149 [.int y0] := by
        intro x2 x3 x4 x5 x9 y0 hf
        unfold f_X2_holds_b149 at hf
        refine z_istore (pc := 149) (lv' := [(10, .int y0), (0, .ref (aQ 200)), (2, .int x2), (3, .int x3), (4, .int x4), (5, .int x5), (9, .int x9)]) E dX2_holds_149 (by decide) rfl ?_
        refine z_iload (pc := 151) (k0 := 0) E dX2_holds_151 rfl ?_
        refine z_iload (pc := 153) (k0 := 6) E dX2_holds_153 rfl ?_
        refine z_icmp_ge (pc := 155) (tgt := 162) E dX2_holds_155 (by decide) (fun c26 => ?_) (fun c26 => ?_)
        · have hf := kB_t hf c26
          refine z_iload (pc := 162) (k0 := 0) E dX2_holds_162 rfl ?_
          refine z_iload (pc := 164) (k0 := 6) E dX2_holds_164 rfl ?_
          refine z_icmp_ne (pc := 166) (tgt := 173) E dX2_holds_166 (by decide) (fun c27 => ?_) (fun c27 => ?_)
          · have hf := kB_f hf c27
            refine z_iconst (pc := 173) (v := 2) E dX2_holds_173 (by decide) ?_
            refine z_sub [1, 2, 3, 4, 5] (lv' := [(0, .ref (aQ 200)), (2, .int x2), (3, .int x3), (4, .int x4), (5, .int x5)]) rfl ?_
            exact B174 x2 x3 x4 x5 2 hf
          · have hf := kB_t hf c27
            refine z_iconst (pc := 169) (v := 1) E dX2_holds_169 (by decide) ?_
            refine z_goto (pc := 170) (tgt := 174) E dX2_holds_170 (by decide) ?_
            refine z_sub [1, 2, 3, 4, 5] (lv' := [(0, .ref (aQ 200)), (2, .int x2), (3, .int x3), (4, .int x4), (5, .int x5)]) rfl ?_
            exact B174 x2 x3 x4 x5 1 hf
        · have hf := kB_f hf c26
          refine z_iconst (pc := 158) (v := 0) E dX2_holds_158 (by decide) ?_
          refine z_goto (pc := 159) (tgt := 174) E dX2_holds_159 (by decide) ?_
          refine z_sub [1, 2, 3, 4, 5] (lv' := [(0, .ref (aQ 200)), (2, .int x2), (3, .int x3), (4, .int x4), (5, .int x5)]) rfl ?_
          exact B174 x2 x3 x4 x5 0 hf
      intro x2 x3 x4 hf
      rw [f_X2_holds_l5_s] at hf
      refine z_iload (pc := 5) (k0 := 3) E dX2_holds_5 rfl ?_
      refine z_if_lt (pc := 7) (tgt := 203) E dX2_holds_7 (by decide) (fun c1 => ?_) (fun c1 => ?_)
      · have hf := kB_t hf c1
        refine z_sub [2] (lv' := [(3, .int x3)]) rfl ?_
        exact B203 x3 hf
      · have hf := kB_f hf c1
        refine z_iload (pc := 10) (k0 := 3) E dX2_holds_10 rfl ?_
        refine z_iload_n (pc := 12) (k0 := 1) E dX2_holds_12 rfl rfl ?_
        refine z_icmp_ge (pc := 13) (tgt := 203) E dX2_holds_13 (by decide) (fun c2 => ?_) (fun c2 => ?_)
        · have hf := kB_t hf c2
          refine z_sub [2] (lv' := [(3, .int x3)]) rfl ?_
          exact B203 x3 hf
        · have hf := kB_f hf c2
          refine z_iload (pc := 16) (k0 := 3) E dX2_holds_16 rfl ?_
          refine z_aload_n (pc := 18) (k0 := 0) E dX2_holds_18 rfl rfl ?_
          refine gQ_3 (pc := 19) (i := 0) E rfl wd_15_8 dX2_holds_19 ?_
          refine nQ_3 (pc := 22) (i := 0) E rfl dX2_holds_22 ?_
          refine z_icmp_ge (pc := 23) (tgt := 203) E dX2_holds_23 (by decide) (fun c3 => ?_) (fun c3 => ?_)
          · have hf := kB_t hf c3
            refine z_sub [2] (lv' := [(3, .int x3)]) rfl ?_
            exact B203 x3 hf
          · have hf := kB_f hf c3
            refine z_aload_n (pc := 26) (k0 := 0) E dX2_holds_26 rfl rfl ?_
            refine gQ_3 (pc := 27) (i := 0) E rfl wd_15_8 dX2_holds_27 ?_
            refine z_iload (pc := 30) (k0 := 3) E dX2_holds_30 rfl ?_
            obtain ⟨c4, hf⟩ := kO_e hf
            refine lQ_3 (pc := 32) (i := 0) E rfl c4 dX2_holds_32 ?_
            refine z_istore (pc := 33) (lv' := [(5, .int ((SQ.2 3) (Int32.toNatClampNeg x4))), (0, .ref (aQ 200)), (2, .int x2), (3, .int x3), (4, .int x4)]) E dX2_holds_33 (by decide) rfl ?_
            refine z_iload_n (pc := 35) (k0 := 3) E dX2_holds_35 rfl rfl ?_
            refine z_iconst (pc := 36) (v := 1) E dX2_holds_36 (by decide) ?_
            obtain ⟨v5, e_v5, hf⟩ := kL_e hf
            refine z_iand (pc := 37) (v := v5) E dX2_holds_37 e_v5 ?_
            refine z_istore (pc := 38) (lv' := [(6, .int v5), (5, .int ((SQ.2 3) (Int32.toNatClampNeg x4))), (0, .ref (aQ 200)), (2, .int x2), (3, .int x3), (4, .int x4)]) E dX2_holds_38 (by decide) rfl ?_
            refine z_iload_n (pc := 40) (k0 := 4) E dX2_holds_40 rfl rfl ?_
            refine z_iconst (pc := 41) (v := 1) E dX2_holds_41 (by decide) ?_
            obtain ⟨v6, e_v6, hf⟩ := kL_e hf
            refine z_iushr (pc := 42) (v := v6) E dX2_holds_42 e_v6 ?_
            refine z_istore (pc := 43) (lv' := [(7, .int v6), (6, .int v5), (5, .int ((SQ.2 3) (Int32.toNatClampNeg x4))), (0, .ref (aQ 200)), (2, .int x2), (3, .int x3), (4, .int x4)]) E dX2_holds_43 (by decide) rfl ?_
            refine z_iload (pc := 45) (k0 := 2) E dX2_holds_45 rfl ?_
            refine z_iconst (pc := 47) (v := 3) E dX2_holds_47 (by decide) ?_
            obtain ⟨v7, e_v7, hf⟩ := kL_e hf
            refine z_iand (pc := 48) (v := v7) E dX2_holds_48 e_v7 ?_
            by_cases c8 : v7 = 1
            · have hf := kB_t hf c8
              refine z_tswIn (pc := 49) (tgt := 76) (v := 1) (n := 1) (off := 27) E dX2_holds_49 c8 (by decide) (by decide) (by decide) (by decide) (by decide) ?_
              refine z_iload_n (pc := 76) (k0 := 5) E dX2_holds_76 rfl rfl ?_
              refine z_iconst (pc := 77) (v := 1) E dX2_holds_77 (by decide) ?_
              obtain ⟨v9, e_v9, hf⟩ := kL_e hf
              refine z_ixor (pc := 78) (v := v9) E dX2_holds_78 e_v9 ?_
              refine z_istore_n (pc := 79) (lv' := [(3, .int v9), (7, .int v6), (6, .int v5), (5, .int ((SQ.2 3) (Int32.toNatClampNeg x4))), (0, .ref (aQ 200)), (2, .int x2), (4, .int x4)]) E dX2_holds_79 rfl (by decide) rfl ?_
              refine z_goto (pc := 80) (tgt := 197) E dX2_holds_80 (by decide) ?_
              obtain ⟨v10, e_v10, hf⟩ := kL_e hf
              refine z_iinc (pc := 197) (k0 := 6) (v := v10) (lv' := [(4, .int v10), (3, .int v9), (7, .int v6), (6, .int v5), (5, .int ((SQ.2 3) (Int32.toNatClampNeg x4))), (0, .ref (aQ 200)), (2, .int x2)]) E dX2_holds_197 rfl e_v10 (by decide) rfl ?_
              refine z_goto (pc := 200) (tgt := 5) E dX2_holds_200 (by decide) ?_
              refine z_sub [5, 6, 1, 0] (lv' := [(0, .ref (aQ 200)), (2, .int x2), (3, .int v9), (4, .int v10)]) rfl ?_
              exact ih5 x2 v9 v10 hf
            have hf := kB_f hf c8
            by_cases c11 : v7 = 2
            · have hf := kB_t hf c11
              refine z_tswIn (pc := 49) (tgt := 83) (v := 2) (n := 2) (off := 34) E dX2_holds_49 c11 (by decide) (by decide) (by decide) (by decide) (by decide) ?_
              refine z_iload (pc := 83) (k0 := 1) E dX2_holds_83 rfl ?_
              refine z_iconst (pc := 85) (v := 1) E dX2_holds_85 (by decide) ?_
              refine z_icmp_ne (pc := 86) (tgt := 94) E dX2_holds_86 (by decide) (fun c12 => ?_) (fun c12 => ?_)
              · have hf := kB_f hf c12
                refine z_iload (pc := 94) (k0 := 0) E dX2_holds_94 rfl ?_
                refine z_bipush (pc := 96) (v := (-2)) E dX2_holds_96 (by decide) ?_
                obtain ⟨v13, e_v13, hf⟩ := kL_e hf
                refine z_iand (pc := 98) (v := v13) E dX2_holds_98 e_v13 ?_
                refine z_istore_n (pc := 99) (lv' := [(3, .int v13), (7, .int v6), (6, .int v5), (5, .int ((SQ.2 3) (Int32.toNatClampNeg x4))), (0, .ref (aQ 200)), (2, .int x2), (4, .int x4)]) E dX2_holds_99 rfl (by decide) rfl ?_
                refine z_goto (pc := 100) (tgt := 197) E dX2_holds_100 (by decide) ?_
                obtain ⟨v14, e_v14, hf⟩ := kL_e hf
                refine z_iinc (pc := 197) (k0 := 6) (v := v14) (lv' := [(4, .int v14), (3, .int v13), (7, .int v6), (6, .int v5), (5, .int ((SQ.2 3) (Int32.toNatClampNeg x4))), (0, .ref (aQ 200)), (2, .int x2)]) E dX2_holds_197 rfl e_v14 (by decide) rfl ?_
                refine z_goto (pc := 200) (tgt := 5) E dX2_holds_200 (by decide) ?_
                refine z_sub [5, 6, 1, 0] (lv' := [(0, .ref (aQ 200)), (2, .int x2), (3, .int v13), (4, .int v14)]) rfl ?_
                exact ih5 x2 v13 v14 hf
              · have hf := kB_t hf c12
                refine z_iload (pc := 89) (k0 := 0) E dX2_holds_89 rfl ?_
                refine z_goto (pc := 91) (tgt := 99) E dX2_holds_91 (by decide) ?_
                refine z_istore_n (pc := 99) (lv' := [(3, .int v6), (7, .int v6), (6, .int v5), (5, .int ((SQ.2 3) (Int32.toNatClampNeg x4))), (0, .ref (aQ 200)), (2, .int x2), (4, .int x4)]) E dX2_holds_99 rfl (by decide) rfl ?_
                refine z_goto (pc := 100) (tgt := 197) E dX2_holds_100 (by decide) ?_
                obtain ⟨v15, e_v15, hf⟩ := kL_e hf
                refine z_iinc (pc := 197) (k0 := 6) (v := v15) (lv' := [(4, .int v15), (3, .int v6), (7, .int v6), (6, .int v5), (5, .int ((SQ.2 3) (Int32.toNatClampNeg x4))), (0, .ref (aQ 200)), (2, .int x2)]) E dX2_holds_197 rfl e_v15 (by decide) rfl ?_
                refine z_goto (pc := 200) (tgt := 5) E dX2_holds_200 (by decide) ?_
                refine z_sub [5, 6, 1, 0] (lv' := [(0, .ref (aQ 200)), (2, .int x2), (3, .int v6), (4, .int v15)]) rfl ?_
                exact ih5 x2 v6 v15 hf
            have hf := kB_f hf c11
            by_cases c16 : v7 = 3
            · have hf := kB_t hf c16
              refine z_tswIn (pc := 49) (tgt := 103) (v := 3) (n := 3) (off := 54) E dX2_holds_49 c16 (by decide) (by decide) (by decide) (by decide) (by decide) ?_
              refine z_iload (pc := 103) (k0 := 0) E dX2_holds_103 rfl ?_
              refine z_iload (pc := 105) (k0 := 1) E dX2_holds_105 rfl ?_
              obtain ⟨v17, e_v17, hf⟩ := kL_e hf
              refine z_ior (pc := 107) (v := v17) E dX2_holds_107 e_v17 ?_
              refine z_istore_n (pc := 108) (lv' := [(3, .int v17), (7, .int v6), (6, .int v5), (5, .int ((SQ.2 3) (Int32.toNatClampNeg x4))), (0, .ref (aQ 200)), (2, .int x2), (4, .int x4)]) E dX2_holds_108 rfl (by decide) rfl ?_
              refine z_goto (pc := 109) (tgt := 197) E dX2_holds_109 (by decide) ?_
              obtain ⟨v18, e_v18, hf⟩ := kL_e hf
              refine z_iinc (pc := 197) (k0 := 6) (v := v18) (lv' := [(4, .int v18), (3, .int v17), (7, .int v6), (6, .int v5), (5, .int ((SQ.2 3) (Int32.toNatClampNeg x4))), (0, .ref (aQ 200)), (2, .int x2)]) E dX2_holds_197 rfl e_v18 (by decide) rfl ?_
              refine z_goto (pc := 200) (tgt := 5) E dX2_holds_200 (by decide) ?_
              refine z_sub [5, 6, 1, 0] (lv' := [(0, .ref (aQ 200)), (2, .int x2), (3, .int v17), (4, .int v18)]) rfl ?_
              exact ih5 x2 v17 v18 hf
            have hf := kB_f hf c16
            refine z_tswOut (pc := 49) (tgt := 112) E dX2_holds_49 (by have n_c8 := lv_neT c8 (a := 1) (by decide); have n_c11 := lv_neT c11 (a := 2) (by decide); have n_c16 := lv_neT c16 (a := 3) (by decide); omega) (by decide) ?_
            refine z_iload (pc := 112) (k0 := 2) E dX2_holds_112 rfl ?_
            refine z_iconst (pc := 114) (v := 2) E dX2_holds_114 (by decide) ?_
            obtain ⟨v19, e_v19, hf⟩ := kL_e hf
            refine z_ishr (pc := 115) (v := v19) E dX2_holds_115 e_v19 ?_
            refine z_bipush (pc := 116) (v := 7) E dX2_holds_116 (by decide) ?_
            obtain ⟨v20, e_v20, hf⟩ := kL_e hf
            refine z_iand (pc := 118) (v := v20) E dX2_holds_118 e_v20 ?_
            refine z_istore (pc := 119) (lv' := [(8, .int v20), (7, .int v6), (6, .int v5), (5, .int ((SQ.2 3) (Int32.toNatClampNeg x4))), (0, .ref (aQ 200)), (2, .int x2), (3, .int x3), (4, .int x4)]) E dX2_holds_119 (by decide) rfl ?_
            refine z_iload (pc := 121) (k0 := 3) E dX2_holds_121 rfl ?_
            refine z_bipush (pc := 123) (v := 7) E dX2_holds_123 (by decide) ?_
            obtain ⟨v21, e_v21, hf⟩ := kL_e hf
            refine z_ishr (pc := 125) (v := v21) E dX2_holds_125 e_v21 ?_
            refine z_istore (pc := 126) (lv' := [(9, .int v21), (8, .int v20), (7, .int v6), (6, .int v5), (5, .int ((SQ.2 3) (Int32.toNatClampNeg x4))), (0, .ref (aQ 200)), (2, .int x2), (3, .int x3), (4, .int x4)]) E dX2_holds_126 (by decide) rfl ?_
            refine z_iload (pc := 128) (k0 := 1) E dX2_holds_128 rfl ?_
            refine z_aload_n (pc := 130) (k0 := 5) E dX2_holds_130 rfl rfl ?_
            refine gQ_4 (pc := 131) (i := 0) E rfl wd_14_14 dX2_holds_131 ?_
            refine nQ_4 (pc := 134) (i := 0) E rfl dX2_holds_134 ?_
            refine z_icmp_ge (pc := 135) (tgt := 148) E dX2_holds_135 (by decide) (fun c22 => ?_) (fun c22 => ?_)
            · have hf := kB_t hf c22
              refine z_iconst (pc := 148) (v := 0) E dX2_holds_148 (by decide) ?_
              refine z_sub [5, 6, 7, 8, 4, 0] (lv' := [(0, .ref (aQ 200)), (2, .int x2), (3, .int x3), (4, .int x4), (5, .int ((SQ.2 3) (Int32.toNatClampNeg x4))), (9, .int v21)]) rfl ?_
              exact B149 x2 x3 x4 ((SQ.2 3) (Int32.toNatClampNeg x4)) v21 0 hf
            · have hf := kB_f hf c22
              refine z_aload_n (pc := 138) (k0 := 5) E dX2_holds_138 rfl rfl ?_
              refine gQ_4 (pc := 139) (i := 0) E rfl wd_14_14 dX2_holds_139 ?_
              refine z_iload (pc := 142) (k0 := 1) E dX2_holds_142 rfl ?_
              obtain ⟨c23, hf⟩ := kO_e hf
              refine lQ_4 (pc := 144) (i := 0) E rfl c23 dX2_holds_144 ?_
              refine z_goto (pc := 145) (tgt := 149) E dX2_holds_145 (by decide) ?_
              refine z_sub [5, 6, 7, 8, 4, 0] (lv' := [(0, .ref (aQ 200)), (2, .int x2), (3, .int x3), (4, .int x4), (5, .int ((SQ.2 3) (Int32.toNatClampNeg x4))), (9, .int v21)]) rfl ?_
              exact B149 x2 x3 x4 ((SQ.2 3) (Int32.toNatClampNeg x4)) v21 ((SQ.2 4) (Int32.toNatClampNeg v20)) hf
  unfold f_X2_holds at hf
  refine z_iconst (pc := 0) (v := 0) E dX2_holds_0 (by decide) ?_
  refine z_istore_n (pc := 1) (lv' := [(3, .int 0), (0, .ref (aQ 200)), (1, .int a1), (2, .int a2)]) E dX2_holds_1 rfl (by decide) rfl ?_
  refine z_iload_n (pc := 2) (k0 := 2) E dX2_holds_2 rfl rfl ?_
  refine z_istore (pc := 3) (lv' := [(4, .int a1), (3, .int 0), (0, .ref (aQ 200)), (1, .int a1), (2, .int a2)]) E dX2_holds_3 (by decide) rfl ?_
  refine z_sub [2, 4, 1, 0] (lv' := [(0, .ref (aQ 200)), (2, .int a2), (3, .int 0), (4, .int a1)]) rfl ?_
  exact L5 N a2 0 a1 hf
noncomputable def f_X2_sum_b62 (N : Nat) (SQ : zQS) (k11 : Int32 → Int32 → Int32 → Int32 → Int32 → Int32 → Option Int32) (x1 : Int32) (x2 : Int32) (x3 : Int32) (x4 : Int32) (x6 : Int32) : Option Int32 := kO (¬ (x6 < 0 ∨ (SQ.1 2) ≤ Int32.toNatClampNeg x6)) (kL (x6 + 1) (fun v12 => k11 x1 x2 x3 x4 ((SQ.2 2) (Int32.toNatClampNeg x6)) v12))
noncomputable def f_X2_sum_l11 (N : Nat) (SQ : zQS) : Nat → Int32 → Int32 → Int32 → Int32 → Int32 → Int32 → Option Int32 := fun n => Nat.rec (motive := fun _ => Int32 → Int32 → Int32 → Int32 → Int32 → Int32 → Option Int32) (fun _ _ _ _ _ _ => none) (fun _ ih x1 x2 x3 x4 x5 x6 => kB ((Int32.ofNat (SQ.1 0)) ≤ x6) (kB (x3 = 0) (some (x2)) (some (x4))) (kO (¬ (x6 < 0 ∨ (SQ.1 0) ≤ Int32.toNatClampNeg x6)) (kB (((SQ.2 0) (Int32.toNatClampNeg x6)) = x1) (kO (¬ (x6 < 0 ∨ (SQ.1 2) ≤ Int32.toNatClampNeg x6)) (kC (f_X2_holds N SQ x5 ((SQ.2 2) (Int32.toNatClampNeg x6))) (fun r6 => kB (r6 = 0) (f_X2_sum_b62 N SQ ih x1 x2 1 x4 x6) (kO (¬ (x6 < 0 ∨ (SQ.1 1) ≤ Int32.toNatClampNeg x6)) (kL (x4 + ((SQ.2 1) (Int32.toNatClampNeg x6))) (fun v10 => f_X2_sum_b62 N SQ ih x1 x2 1 v10 x6)))))) (f_X2_sum_b62 N SQ ih x1 x2 x3 x4 x6)))) n
theorem f_X2_sum_l11_z (N : Nat) (SQ : zQS) (x1 : Int32) (x2 : Int32) (x3 : Int32) (x4 : Int32) (x5 : Int32) (x6 : Int32) : f_X2_sum_l11 N SQ 0 x1 x2 x3 x4 x5 x6 = none := rfl
theorem f_X2_sum_l11_s (N : Nat) (SQ : zQS) (n : Nat) (x1 : Int32) (x2 : Int32) (x3 : Int32) (x4 : Int32) (x5 : Int32) (x6 : Int32) : f_X2_sum_l11 N SQ (n + 1) x1 x2 x3 x4 x5 x6 = kB ((Int32.ofNat (SQ.1 0)) ≤ x6) (kB (x3 = 0) (some (x2)) (some (x4))) (kO (¬ (x6 < 0 ∨ (SQ.1 0) ≤ Int32.toNatClampNeg x6)) (kB (((SQ.2 0) (Int32.toNatClampNeg x6)) = x1) (kO (¬ (x6 < 0 ∨ (SQ.1 2) ≤ Int32.toNatClampNeg x6)) (kC (f_X2_holds N SQ x5 ((SQ.2 2) (Int32.toNatClampNeg x6))) (fun r6 => kB (r6 = 0) (f_X2_sum_b62 N SQ (f_X2_sum_l11 N SQ n) x1 x2 1 x4 x6) (kO (¬ (x6 < 0 ∨ (SQ.1 1) ≤ Int32.toNatClampNeg x6)) (kL (x4 + ((SQ.2 1) (Int32.toNatClampNeg x6))) (fun v10 => f_X2_sum_b62 N SQ (f_X2_sum_l11 N SQ n) x1 x2 1 v10 x6)))))) (f_X2_sum_b62 N SQ (f_X2_sum_l11 N SQ n) x1 x2 x3 x4 x6))) := rfl
noncomputable def f_X2_sum (N : Nat) (SQ : zQS) (a1 : Int32) (a2 : Int32) : Option Int32 := f_X2_sum_l11 N SQ N a1 a2 0 0 0 0
theorem wv_X2_sum : zWV RX2 yX2_sum cX2_sum 7 (some .int) 2 := ⟨wd_14_22, wd_14_23, wd_14_12, wd_15_0, by decide +kernel⟩
def rm_X2_sum : Room := { frames := 1, cells := 0, slots := 0, locals := 31 }
set_option maxHeartbeats 4000000 in
set_option maxRecDepth 100000 in
theorem c_X2_sum {l : Launch} {G : va_G} {ct : Nat → ClassId} {aQ : Nat → Nat} {N : Nat} {SQ : zQS} {a1 : Int32} {a2 : Int32} {r0 : Int32} (hf : f_X2_sum N SQ a1 a2 = some r0) : zC l yX2_sum cX2_sum 7 (some .int) rm_X2_sum G ct [.ref (aQ 200), .int a1, .int a2] [wQ aQ ct SQ] [wQ aQ ct SQ] (some (.int r0)) 0 0 := by
  refine z_enter (own := RX2) (lv := [(0, .ref (aQ 200)), (1, .int a1), (2, .int a2)]) (by decide) rfl (Nat.le_of_ble_eq_true rfl) rfl ?_
  intro p e s m args below meth c A E hr hnm
  have L11 : ∀ (n11 : Nat) (x1 : Int32) (x2 : Int32) (x3 : Int32) (x4 : Int32) (x5 : Int32) (x6 : Int32), f_X2_sum_l11 N SQ n11 x1 x2 x3 x4 x5 x6 = some r0 → zJ p l e rm_X2_sum s m args below meth c (zQ G ct (some (.int r0)) [wQ aQ ct SQ] A below args s 0 0) A G 7 0 0 [wQ aQ ct SQ] [(0, .ref (aQ 200)), (1, .int x1), (2, .int x2), (3, .int x3), (4, .int x4), (5, .int x5), (6, .int x6)] 11 [] := by
    intro n11
    induction n11 with
    | zero =>
      intro x1 x2 x3 x4 x5 x6 hf
      rw [f_X2_sum_l11_z] at hf
      cases hf
    | succ n11 ih11 =>
      have B62 : ∀ (x1 : Int32) (x2 : Int32) (x3 : Int32) (x4 : Int32) (x6 : Int32), f_X2_sum_b62 N SQ (f_X2_sum_l11 N SQ n11) x1 x2 x3 x4 x6 = some r0 → zJ p l e rm_X2_sum s m args below meth c (zQ G ct (some (.int r0)) [wQ aQ ct SQ] A below args s 0 0) A G 7 0 0 [wQ aQ ct SQ] [(0, .ref (aQ 200)), (1, .int x1), (2, .int x2), (3, .int x3), (4, .int x4), (6, .int x6)] 62 [] := by
        intro x1 x2 x3 x4 x6 hf
        unfold f_X2_sum_b62 at hf
        refine z_aload_n (pc := 62) (k0 := 0) E dX2_sum_62 rfl rfl ?_
        refine gQ_2 (pc := 63) (i := 0) E rfl wd_15_2 dX2_sum_63 ?_
        refine z_iload (pc := 66) (k0 := 5) E dX2_sum_66 rfl ?_
        obtain ⟨c11, hf⟩ := kO_e hf
        refine lQ_2 (pc := 68) (i := 0) E rfl c11 dX2_sum_68 ?_
        refine z_istore (pc := 69) (lv' := [(5, .int ((SQ.2 2) (Int32.toNatClampNeg x6))), (0, .ref (aQ 200)), (1, .int x1), (2, .int x2), (3, .int x3), (4, .int x4), (6, .int x6)]) E dX2_sum_69 (by decide) rfl ?_
        obtain ⟨v12, e_v12, hf⟩ := kL_e hf
        refine z_iinc (pc := 71) (k0 := 6) (v := v12) (lv' := [(6, .int v12), (5, .int ((SQ.2 2) (Int32.toNatClampNeg x6))), (0, .ref (aQ 200)), (1, .int x1), (2, .int x2), (3, .int x3), (4, .int x4)]) E dX2_sum_71 rfl e_v12 (by decide) rfl ?_
        refine z_goto (pc := 74) (tgt := 11) E dX2_sum_74 (by decide) ?_
        refine z_sub [2, 3, 4, 5, 6, 1, 0] (lv' := [(0, .ref (aQ 200)), (1, .int x1), (2, .int x2), (3, .int x3), (4, .int x4), (5, .int ((SQ.2 2) (Int32.toNatClampNeg x6))), (6, .int v12)]) rfl ?_
        exact ih11 x1 x2 x3 x4 ((SQ.2 2) (Int32.toNatClampNeg x6)) v12 hf
      intro x1 x2 x3 x4 x5 x6 hf
      rw [f_X2_sum_l11_s] at hf
      refine z_iload (pc := 11) (k0 := 6) E dX2_sum_11 rfl ?_
      refine z_aload_n (pc := 13) (k0 := 0) E dX2_sum_13 rfl rfl ?_
      refine gQ_0 (pc := 14) (i := 0) E rfl wd_15_1 dX2_sum_14 ?_
      refine nQ_0 (pc := 17) (i := 0) E rfl dX2_sum_17 ?_
      refine z_icmp_ge (pc := 18) (tgt := 77) E dX2_sum_18 (by decide) (fun c1 => ?_) (fun c1 => ?_)
      · have hf := kB_t hf c1
        refine z_iload_n (pc := 77) (k0 := 3) E dX2_sum_77 rfl rfl ?_
        refine z_if_eq (pc := 78) (tgt := 86) E dX2_sum_78 (by decide) (fun c2 => ?_) (fun c2 => ?_)
        · have hf := kB_t hf c2
          refine z_iload_n (pc := 86) (k0 := 2) E dX2_sum_86 rfl rfl ?_
          cases hf
          exact z_iret E hr dX2_sum_87
        · have hf := kB_f hf c2
          refine z_iload (pc := 81) (k0 := 4) E dX2_sum_81 rfl ?_
          refine z_goto (pc := 83) (tgt := 87) E dX2_sum_83 (by decide) ?_
          cases hf
          exact z_iret E hr dX2_sum_87
      · have hf := kB_f hf c1
        refine z_aload_n (pc := 21) (k0 := 0) E dX2_sum_21 rfl rfl ?_
        refine gQ_0 (pc := 22) (i := 0) E rfl wd_15_1 dX2_sum_22 ?_
        refine z_iload (pc := 25) (k0 := 6) E dX2_sum_25 rfl ?_
        obtain ⟨c3, hf⟩ := kO_e hf
        refine lQ_0 (pc := 27) (i := 0) E rfl c3 dX2_sum_27 ?_
        refine z_iload_n (pc := 28) (k0 := 1) E dX2_sum_28 rfl rfl ?_
        refine z_icmp_ne (pc := 29) (tgt := 62) E dX2_sum_29 (by decide) (fun c4 => ?_) (fun c4 => ?_)
        · have hf := kB_f hf c4
          refine z_sub [0, 1, 2, 3, 4, 6] (lv' := [(0, .ref (aQ 200)), (1, .int x1), (2, .int x2), (3, .int x3), (4, .int x4), (6, .int x6)]) rfl ?_
          exact B62 x1 x2 x3 x4 x6 hf
        · have hf := kB_t hf c4
          refine z_iconst (pc := 32) (v := 1) E dX2_sum_32 (by decide) ?_
          refine z_istore_n (pc := 33) (lv' := [(3, .int 1), (0, .ref (aQ 200)), (1, .int x1), (2, .int x2), (4, .int x4), (5, .int x5), (6, .int x6)]) E dX2_sum_33 rfl (by decide) rfl ?_
          refine z_aload_n (pc := 34) (k0 := 1) E dX2_sum_34 rfl rfl ?_
          refine z_iload (pc := 35) (k0 := 5) E dX2_sum_35 rfl ?_
          refine z_aload_n (pc := 37) (k0 := 1) E dX2_sum_37 rfl rfl ?_
          refine gQ_2 (pc := 38) (i := 0) E rfl wd_15_2 dX2_sum_38 ?_
          refine z_iload (pc := 41) (k0 := 6) E dX2_sum_41 rfl ?_
          obtain ⟨c5, hf⟩ := kO_e hf
          refine lQ_2 (pc := 43) (i := 0) E rfl c5 dX2_sum_43 ?_
          obtain ⟨r6, h7, hf⟩ := kC_e hf
          refine z_callV0 (pc := 44) (is := [0]) (n := 2) (As := [.int x5, .int ((SQ.2 2) (Int32.toNatClampNeg x6))]) (st := []) (st' := [.int r6]) (C2 := [wQ aQ ct SQ]) E (c_X2_holds (l := l) (G := G) (ct := ct) (aQ := aQ) h7) wv_X2_holds wd_15_4 ⟨Nat.le_of_ble_eq_true rfl, Nat.le_of_ble_eq_true rfl, Nat.le_of_ble_eq_true rfl, Nat.le_of_ble_eq_true rfl⟩ rfl rfl rfl (by decide) rfl rfl (zrQ (j := 0) rfl) rfl (Nat.le_of_ble_eq_true rfl) dX2_sum_44 rfl rfl ?_
          refine z_if_eq (pc := 47) (tgt := 62) E dX2_sum_47 (by decide) (fun c8 => ?_) (fun c8 => ?_)
          · have hf := kB_t hf c8
            refine z_sub [1, 2, 3, 0, 4, 6] (lv' := [(0, .ref (aQ 200)), (1, .int x1), (2, .int x2), (3, .int 1), (4, .int x4), (6, .int x6)]) rfl ?_
            exact B62 x1 x2 1 x4 x6 hf
          · have hf := kB_f hf c8
            refine z_iload (pc := 50) (k0 := 4) E dX2_sum_50 rfl ?_
            refine z_aload_n (pc := 52) (k0 := 1) E dX2_sum_52 rfl rfl ?_
            refine gQ_1 (pc := 53) (i := 0) E rfl wd_15_3 dX2_sum_53 ?_
            refine z_iload (pc := 56) (k0 := 6) E dX2_sum_56 rfl ?_
            obtain ⟨c9, hf⟩ := kO_e hf
            refine lQ_1 (pc := 58) (i := 0) E rfl c9 dX2_sum_58 ?_
            obtain ⟨v10, e_v10, hf⟩ := kL_e hf
            refine z_iadd (pc := 59) (v := v10) E dX2_sum_59 e_v10 ?_
            refine z_istore (pc := 60) (lv' := [(4, .int v10), (3, .int 1), (0, .ref (aQ 200)), (1, .int x1), (2, .int x2), (5, .int x5), (6, .int x6)]) E dX2_sum_60 (by decide) rfl ?_
            refine z_sub [2, 3, 4, 1, 0, 6] (lv' := [(0, .ref (aQ 200)), (1, .int x1), (2, .int x2), (3, .int 1), (4, .int v10), (6, .int x6)]) rfl ?_
            exact B62 x1 x2 1 v10 x6 hf
  unfold f_X2_sum at hf
  refine z_iconst (pc := 0) (v := 0) E dX2_sum_0 (by decide) ?_
  refine z_istore_n (pc := 1) (lv' := [(3, .int 0), (0, .ref (aQ 200)), (1, .int a1), (2, .int a2)]) E dX2_sum_1 rfl (by decide) rfl ?_
  refine z_iconst (pc := 2) (v := 0) E dX2_sum_2 (by decide) ?_
  refine z_istore (pc := 3) (lv' := [(4, .int 0), (3, .int 0), (0, .ref (aQ 200)), (1, .int a1), (2, .int a2)]) E dX2_sum_3 (by decide) rfl ?_
  refine z_iconst (pc := 5) (v := 0) E dX2_sum_5 (by decide) ?_
  refine z_istore (pc := 6) (lv' := [(5, .int 0), (4, .int 0), (3, .int 0), (0, .ref (aQ 200)), (1, .int a1), (2, .int a2)]) E dX2_sum_6 (by decide) rfl ?_
  refine z_iconst (pc := 8) (v := 0) E dX2_sum_8 (by decide) ?_
  refine z_istore (pc := 9) (lv' := [(6, .int 0), (5, .int 0), (4, .int 0), (3, .int 0), (0, .ref (aQ 200)), (1, .int a1), (2, .int a2)]) E dX2_sum_9 (by decide) rfl ?_
  refine z_sub [4, 5, 6, 3, 2, 1, 0] (lv' := [(0, .ref (aQ 200)), (1, .int a1), (2, .int a2), (3, .int 0), (4, .int 0), (5, .int 0), (6, .int 0)]) rfl ?_
  exact L11 N a1 a2 0 0 0 0 hf
