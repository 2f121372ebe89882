noncomputable def f_X12_emits (SM : zMS) (a1 : Int32) : Option zMS := kO (¬ ((SM.1 27) < 0 ∨ 600 ≤ Int32.toNatClampNeg (SM.1 27))) (kL (mSA SM 25 (upd (SM.2.1 25) (Int32.toNatClampNeg (SM.1 27)) a1)) (fun SM_2 => kL ((SM_2.1 27) + 1) (fun v3 => kL (mSI SM_2 27 v3) (fun SM_4 => some (SM_4)))))
theorem wv_X12_emits : zWV RX12 yX12_emits cX12_emits 2 none 1 := ⟨wd_28_2, wd_28_3, wd_1_5, wd_28_4, by decide +kernel⟩
def rm_X12_emits : Room := { frames := 0, cells := 0, slots := 0, locals := 0 }
set_option maxHeartbeats 4000000 in
set_option maxRecDepth 100000 in
theorem c_X12_emits {l : Launch} {G : va_G} {ct : Nat → ClassId} {aM : Nat → Nat} {SM : zMS} {a1 : Int32} {OM : zMS} (hf : f_X12_emits SM a1 = some OM) : zC l yX12_emits cX12_emits 2 none rm_X12_emits G ct [.ref (aM 200), .int a1] [wM aM ct SM] [wM aM ct OM] none 0 0 := by
  refine z_enter (own := RX12) (lv := [(0, .ref (aM 200)), (1, .int a1)]) (by decide) rfl (Nat.le_of_ble_eq_true rfl) rfl ?_
  intro p e s m args below meth c A E hr hnm
  unfold f_X12_emits at hf
  refine z_aload_n (pc := 0) (k0 := 0) E dX12_emits_0 rfl rfl ?_
  refine gM_25 (pc := 1) (i := 0) E rfl wd_4_20 dX12_emits_1 ?_
  refine z_aload_n (pc := 4) (k0 := 0) E dX12_emits_4 rfl rfl ?_
  refine gM_27 (pc := 5) (i := 0) E rfl wd_4_22 dX12_emits_5 ?_
  refine z_iload_n (pc := 8) (k0 := 1) E dX12_emits_8 rfl rfl ?_
  obtain ⟨c1, hf⟩ := kO_e hf
  obtain ⟨SM_2, e_SM_2, hf⟩ := kL_e hf
  refine sM_25 (pc := 9) (i := 0) (S1 := SM_2) E rfl c1 e_SM_2 dX12_emits_9 ?_
  show zJ p l e rm_X12_emits s m args below meth c (zQ G ct none [wM aM ct OM] A below args s 0 0) A G 2 0 0 [wM aM ct SM_2] [(0, .ref (aM 200)), (1, .int a1)] 10 []
  refine z_aload_n (pc := 10) (k0 := 0) E dX12_emits_10 rfl rfl ?_
  refine z_dup (pc := 11) E dX12_emits_11 rfl ?_
  refine gM_27 (pc := 12) (i := 0) E rfl wd_4_22 dX12_emits_12 ?_
  refine z_iconst (pc := 15) (v := 1) E dX12_emits_15 (by decide) ?_
  obtain ⟨v3, e_v3, hf⟩ := kL_e hf
  refine z_iadd (pc := 16) (v := v3) E dX12_emits_16 e_v3 ?_
  obtain ⟨SM_4, e_SM_4, hf⟩ := kL_e hf
  refine pM_27 (pc := 17) (i := 0) (S1 := SM_4) E rfl e_SM_4 wd_4_22 dX12_emits_17 ?_
  show zJ p l e rm_X12_emits s m args below meth c (zQ G ct none [wM aM ct OM] A below args s 0 0) A G 2 0 0 [wM aM ct SM_4] [(0, .ref (aM 200)), (1, .int a1)] 20 []
  cases hf
  exact z_vret E hr dX12_emits_20
noncomputable def f_X12_whole_l0 (N : Nat) : Nat → zMS → Option zMS := fun n => Nat.rec (motive := fun _ => zMS → Option zMS) (fun _ => none) (fun _ ih SM => kB ((SM.1 28) ≤ 0) (some (SM)) (kL ((SM.1 28) - 1) (fun v2 => kO (¬ (v2 < 0 ∨ 101 ≤ Int32.toNatClampNeg v2)) (kB ((SM.2.1 26 (Int32.toNatClampNeg v2)) = 33) (kC (f_X12_emits SM (-33)) (fun SM_5 => kL ((SM_5.1 28) - 1) (fun v7 => kL (mSI SM_5 28 v7) (fun SM_8 => kL ((SM_8.1 29) - 1) (fun v9 => kL (mSI SM_8 29 v9) (fun SM_10 => ih SM_10)))))) (some (SM)))))) n
theorem f_X12_whole_l0_z (N : Nat) (SM : zMS) : f_X12_whole_l0 N 0 SM = none := rfl
theorem f_X12_whole_l0_s (N : Nat) (n : Nat) (SM : zMS) : f_X12_whole_l0 N (n + 1) SM = kB ((SM.1 28) ≤ 0) (some (SM)) (kL ((SM.1 28) - 1) (fun v2 => kO (¬ (v2 < 0 ∨ 101 ≤ Int32.toNatClampNeg v2)) (kB ((SM.2.1 26 (Int32.toNatClampNeg v2)) = 33) (kC (f_X12_emits SM (-33)) (fun SM_5 => kL ((SM_5.1 28) - 1) (fun v7 => kL (mSI SM_5 28 v7) (fun SM_8 => kL ((SM_8.1 29) - 1) (fun v9 => kL (mSI SM_8 29 v9) (fun SM_10 => (f_X12_whole_l0 N n) SM_10)))))) (some (SM))))) := rfl
noncomputable def f_X12_whole (N : Nat) (SM : zMS) : Option zMS := f_X12_whole_l0 N N SM
theorem wv_X12_whole : zWV RX12 yX12_whole cX12_whole 1 none 0 := ⟨wd_28_6, wd_28_7, wd_1_5, wd_28_8, by decide +kernel⟩
def rm_X12_whole : Room := { frames := 1, cells := 0, slots := 0, locals := 21 }
set_option maxHeartbeats 4000000 in
set_option maxRecDepth 100000 in
theorem c_X12_whole {l : Launch} {G : va_G} {ct : Nat → ClassId} {aM : Nat → Nat} {N : Nat} {SM : zMS} {OM : zMS} (hf : f_X12_whole N SM = some OM) : zC l yX12_whole cX12_whole 1 none rm_X12_whole G ct [.ref (aM 200)] [wM aM ct SM] [wM aM ct OM] none 0 0 := by
  refine z_enter (own := RX12) (lv := [(0, .ref (aM 200))]) (by decide) rfl (Nat.le_of_ble_eq_true rfl) rfl ?_
  intro p e s m args below meth c A E hr hnm
  have L0 : ∀ (n0 : Nat) (SM : zMS), f_X12_whole_l0 N n0 SM = some OM → zJ p l e rm_X12_whole s m args below meth c (zQ G ct none [wM aM ct OM] A below args s 0 0) A G 1 0 0 [wM aM ct SM] [(0, .ref (aM 200))] 0 [] := by
    intro n0
    induction n0 with
    | zero =>
      intro SM hf
      rw [f_X12_whole_l0_z] at hf
      cases hf
    | succ n0 ih0 =>
      intro SM hf
      rw [f_X12_whole_l0_s] at hf
      refine z_aload_n (pc := 0) (k0 := 0) E dX12_whole_0 rfl rfl ?_
      refine gM_28 (pc := 1) (i := 0) E rfl wd_4_23 dX12_whole_1 ?_
      refine z_if_le (pc := 4) (tgt := 52) E dX12_whole_4 (by decide) (fun c1 => ?_) (fun c1 => ?_)
      · have hf := kB_t hf c1
        cases hf
        exact z_vret E hr dX12_whole_52
      · have hf := kB_f hf c1
        refine z_aload_n (pc := 7) (k0 := 0) E dX12_whole_7 rfl rfl ?_
        refine gM_26 (pc := 8) (i := 0) E rfl wd_4_21 dX12_whole_8 ?_
        refine z_aload_n (pc := 11) (k0 := 0) E dX12_whole_11 rfl rfl ?_
        refine gM_28 (pc := 12) (i := 0) E rfl wd_4_23 dX12_whole_12 ?_
        refine z_iconst (pc := 15) (v := 1) E dX12_whole_15 (by decide) ?_
        obtain ⟨v2, e_v2, hf⟩ := kL_e hf
        refine z_isub (pc := 16) (v := v2) E dX12_whole_16 e_v2 ?_
        obtain ⟨c3, hf⟩ := kO_e hf
        refine lM_26 (pc := 17) (i := 0) E rfl c3 dX12_whole_17 ?_
        refine z_bipush (pc := 18) (v := 33) E dX12_whole_18 (by decide) ?_
        refine z_icmp_ne (pc := 20) (tgt := 52) E dX12_whole_20 (by decide) (fun c4 => ?_) (fun c4 => ?_)
        · have hf := kB_f hf c4
          cases hf
          exact z_vret E hr dX12_whole_52
        · have hf := kB_t hf c4
          refine z_aload_n (pc := 23) (k0 := 0) E dX12_whole_23 rfl rfl ?_
          refine z_bipush (pc := 24) (v := (-33)) E dX12_whole_24 (by decide) ?_
          obtain ⟨SM_5, h6, hf⟩ := kC_e hf
          refine z_callV0 (pc := 26) (is := [0]) (n := 1) (As := [.int (-33)]) (st := []) (st' := []) (C2 := [wM aM ct SM_5]) E (c_X12_emits (l := l) (G := G) (ct := ct) (aM := aM) h6) wv_X12_emits wd_28_1 ⟨Nat.le_of_ble_eq_true rfl, Nat.le_of_ble_eq_true rfl, Nat.le_of_ble_eq_true rfl, Nat.le_of_ble_eq_true rfl⟩ rfl rfl rfl (by decide) rfl rfl (zrM (j := 0) rfl) rfl (Nat.le_of_ble_eq_true rfl) dX12_whole_26 rfl rfl ?_
          refine z_aload_n (pc := 29) (k0 := 0) E dX12_whole_29 rfl rfl ?_
          refine z_dup (pc := 30) E dX12_whole_30 rfl ?_
          refine gM_28 (pc := 31) (i := 0) E rfl wd_4_23 dX12_whole_31 ?_
          refine z_iconst (pc := 34) (v := 1) E dX12_whole_34 (by decide) ?_
          obtain ⟨v7, e_v7, hf⟩ := kL_e hf
          refine z_isub (pc := 35) (v := v7) E dX12_whole_35 e_v7 ?_
          obtain ⟨SM_8, e_SM_8, hf⟩ := kL_e hf
          refine pM_28 (pc := 36) (i := 0) (S1 := SM_8) E rfl e_SM_8 wd_4_23 dX12_whole_36 ?_
          show zJ p l e rm_X12_whole s m args below meth c (zQ G ct none [wM aM ct OM] A below args s 0 0) A G 1 0 0 [wM aM ct SM_8] [(0, .ref (aM 200))] 39 []
          refine z_aload_n (pc := 39) (k0 := 0) E dX12_whole_39 rfl rfl ?_
          refine z_dup (pc := 40) E dX12_whole_40 rfl ?_
          refine gM_29 (pc := 41) (i := 0) E rfl wd_5_0 dX12_whole_41 ?_
          refine z_iconst (pc := 44) (v := 1) E dX12_whole_44 (by decide) ?_
          obtain ⟨v9, e_v9, hf⟩ := kL_e hf
          refine z_isub (pc := 45) (v := v9) E dX12_whole_45 e_v9 ?_
          obtain ⟨SM_10, e_SM_10, hf⟩ := kL_e hf
          refine pM_29 (pc := 46) (i := 0) (S1 := SM_10) E rfl e_SM_10 wd_5_0 dX12_whole_46 ?_
          show zJ p l e rm_X12_whole s m args below meth c (zQ G ct none [wM aM ct OM] A below args s 0 0) A G 1 0 0 [wM aM ct SM_10] [(0, .ref (aM 200))] 49 []
          refine z_goto (pc := 49) (tgt := 0) E dX12_whole_49 (by decide) ?_
          exact ih0 SM_10 hf
  unfold f_X12_whole at hf
  exact L0 N SM hf
noncomputable def f_X12_settle_b45 (N : Nat) (k0 : zMS → Int32 → Option zMS) (SM : zMS) (x1 : Int32) : Option zMS := kL ((SM.1 28) - 1) (fun v9 => kL (mSI SM 28 v9) (fun SM_10 => kO (¬ ((SM_10.1 28) < 0 ∨ 101 ≤ Int32.toNatClampNeg (SM_10.1 28))) (kL (-(SM_10.2.1 26 (Int32.toNatClampNeg (SM_10.1 28)))) (fun v12 => kC (f_X12_emits SM_10 v12) (fun SM_13 => k0 SM_13 x1)))))
noncomputable def f_X12_settle_l0 (N : Nat) : Nat → zMS → Int32 → Option zMS := fun n => Nat.rec (motive := fun _ => zMS → Int32 → Option zMS) (fun _ _ => none) (fun _ ih SM x1 => kB ((SM.1 28) ≤ 0) (some (SM)) (kL ((SM.1 28) - 1) (fun v2 => kO (¬ (v2 < 0 ∨ 101 ≤ Int32.toNatClampNeg v2)) (kB ((SM.2.1 26 (Int32.toNatClampNeg v2)) = 38) (f_X12_settle_b45 N ih SM x1) (kL ((SM.1 28) - 1) (fun v5 => kO (¬ (v5 < 0 ∨ 101 ≤ Int32.toNatClampNeg v5)) (kB ((SM.2.1 26 (Int32.toNatClampNeg v5)) = 124) (kB (x1 = 38) (some (SM)) (f_X12_settle_b45 N ih SM x1)) (some (SM))))))))) n
theorem f_X12_settle_l0_z (N : Nat) (SM : zMS) (x1 : Int32) : f_X12_settle_l0 N 0 SM x1 = none := rfl
theorem f_X12_settle_l0_s (N : Nat) (n : Nat) (SM : zMS) (x1 : Int32) : f_X12_settle_l0 N (n + 1) SM x1 = kB ((SM.1 28) ≤ 0) (some (SM)) (kL ((SM.1 28) - 1) (fun v2 => kO (¬ (v2 < 0 ∨ 101 ≤ Int32.toNatClampNeg v2)) (kB ((SM.2.1 26 (Int32.toNatClampNeg v2)) = 38) (f_X12_settle_b45 N (f_X12_settle_l0 N n) SM x1) (kL ((SM.1 28) - 1) (fun v5 => kO (¬ (v5 < 0 ∨ 101 ≤ Int32.toNatClampNeg v5)) (kB ((SM.2.1 26 (Int32.toNatClampNeg v5)) = 124) (kB (x1 = 38) (some (SM)) (f_X12_settle_b45 N (f_X12_settle_l0 N n) SM x1)) (some (SM)))))))) := rfl
noncomputable def f_X12_settle (N : Nat) (SM : zMS) (a1 : Int32) : Option zMS := f_X12_settle_l0 N N SM a1
theorem wv_X12_settle : zWV RX12 yX12_settle cX12_settle 2 none 1 := ⟨wd_28_10, wd_28_11, wd_1_5, wd_28_12, by decide +kernel⟩
def rm_X12_settle : Room := { frames := 1, cells := 0, slots := 0, locals := 21 }
set_option maxHeartbeats 4000000 in
set_option maxRecDepth 100000 in
theorem c_X12_settle {l : Launch} {G : va_G} {ct : Nat → ClassId} {aM : Nat → Nat} {N : Nat} {SM : zMS} {a1 : Int32} {OM : zMS} (hf : f_X12_settle N SM a1 = some OM) : zC l yX12_settle cX12_settle 2 none rm_X12_settle G ct [.ref (aM 200), .int a1] [wM aM ct SM] [wM aM ct OM] none 0 0 := by
  refine z_enter (own := RX12) (lv := [(0, .ref (aM 200)), (1, .int a1)]) (by decide) rfl (Nat.le_of_ble_eq_true rfl) rfl ?_
  intro p e s m args below meth c A E hr hnm
  have L0 : ∀ (n0 : Nat) (SM : zMS) (x1 : Int32), f_X12_settle_l0 N n0 SM x1 = some OM → zJ p l e rm_X12_settle s m args below meth c (zQ G ct none [wM aM ct OM] A below args s 0 0) A G 2 0 0 [wM aM ct SM] [(0, .ref (aM 200)), (1, .int x1)] 0 [] := by
    intro n0
    induction n0 with
    | zero =>
      intro SM x1 hf
      rw [f_X12_settle_l0_z] at hf
      cases hf
    | succ n0 ih0 =>
      have B45 : ∀ (SM : zMS) (x1 : Int32), f_X12_settle_b45 N (f_X12_settle_l0 N n0) SM x1 = some OM → zJ p l e rm_X12_settle s m args below meth c (zQ G ct none [wM aM ct OM] A below args s 0 0) A G 2 0 0 [wM aM ct SM] [(0, .ref (aM 200)), (1, .int x1)] 45 [] := by
        intro SM x1 hf
        unfold f_X12_settle_b45 at hf
        refine z_aload_n (pc := 45) (k0 := 0) E dX12_settle_45 rfl rfl ?_
        refine z_dup (pc := 46) E dX12_settle_46 rfl ?_
        refine gM_28 (pc := 47) (i := 0) E rfl wd_4_23 dX12_settle_47 ?_
        refine z_iconst (pc := 50) (v := 1) E dX12_settle_50 (by decide) ?_
        obtain ⟨v9, e_v9, hf⟩ := kL_e hf
        refine z_isub (pc := 51) (v := v9) E dX12_settle_51 e_v9 ?_
        obtain ⟨SM_10, e_SM_10, hf⟩ := kL_e hf
        refine pM_28 (pc := 52) (i := 0) (S1 := SM_10) E rfl e_SM_10 wd_4_23 dX12_settle_52 ?_
        show zJ p l e rm_X12_settle s m args below meth c (zQ G ct none [wM aM ct OM] A below args s 0 0) A G 2 0 0 [wM aM ct SM_10] [(0, .ref (aM 200)), (1, .int x1)] 55 []
        refine z_aload_n (pc := 55) (k0 := 0) E dX12_settle_55 rfl rfl ?_
        refine z_aload_n (pc := 56) (k0 := 0) E dX12_settle_56 rfl rfl ?_
        refine gM_26 (pc := 57) (i := 0) E rfl wd_4_21 dX12_settle_57 ?_
        refine z_aload_n (pc := 60) (k0 := 0) E dX12_settle_60 rfl rfl ?_
        refine gM_28 (pc := 61) (i := 0) E rfl wd_4_23 dX12_settle_61 ?_
        obtain ⟨c11, hf⟩ := kO_e hf
        refine lM_26 (pc := 64) (i := 0) E rfl c11 dX12_settle_64 ?_
        obtain ⟨v12, e_v12, hf⟩ := kL_e hf
        refine z_ineg (pc := 65) (v := v12) E dX12_settle_65 e_v12 ?_
        obtain ⟨SM_13, h14, hf⟩ := kC_e hf
        refine z_callV0 (pc := 66) (is := [0]) (n := 1) (As := [.int v12]) (st := []) (st' := []) (C2 := [wM aM ct SM_13]) E (c_X12_emits (l := l) (G := G) (ct := ct) (aM := aM) h14) wv_X12_emits wd_28_1 ⟨Nat.le_of_ble_eq_true rfl, Nat.le_of_ble_eq_true rfl, Nat.le_of_ble_eq_true rfl, Nat.le_of_ble_eq_true rfl⟩ rfl rfl rfl (by decide) rfl rfl (zrM (j := 0) rfl) rfl (Nat.le_of_ble_eq_true rfl) dX12_settle_66 rfl rfl ?_
        refine z_goto (pc := 69) (tgt := 0) E dX12_settle_69 (by decide) ?_
        exact ih0 SM_13 x1 hf
      intro SM x1 hf
      rw [f_X12_settle_l0_s] at hf
      refine z_aload_n (pc := 0) (k0 := 0) E dX12_settle_0 rfl rfl ?_
      refine gM_28 (pc := 1) (i := 0) E rfl wd_4_23 dX12_settle_1 ?_
      refine z_if_le (pc := 4) (tgt := 72) E dX12_settle_4 (by decide) (fun c1 => ?_) (fun c1 => ?_)
      · have hf := kB_t hf c1
        cases hf
        exact z_vret E hr dX12_settle_72
      · have hf := kB_f hf c1
        refine z_aload_n (pc := 7) (k0 := 0) E dX12_settle_7 rfl rfl ?_
        refine gM_26 (pc := 8) (i := 0) E rfl wd_4_21 dX12_settle_8 ?_
        refine z_aload_n (pc := 11) (k0 := 0) E dX12_settle_11 rfl rfl ?_
        refine gM_28 (pc := 12) (i := 0) E rfl wd_4_23 dX12_settle_12 ?_
        refine z_iconst (pc := 15) (v := 1) E dX12_settle_15 (by decide) ?_
        obtain ⟨v2, e_v2, hf⟩ := kL_e hf
        refine z_isub (pc := 16) (v := v2) E dX12_settle_16 e_v2 ?_
        obtain ⟨c3, hf⟩ := kO_e hf
        refine lM_26 (pc := 17) (i := 0) E rfl c3 dX12_settle_17 ?_
        refine z_bipush (pc := 18) (v := 38) E dX12_settle_18 (by decide) ?_
        refine z_icmp_eq (pc := 20) (tgt := 45) E dX12_settle_20 (by decide) (fun c4 => ?_) (fun c4 => ?_)
        · have hf := kB_t hf c4
          exact B45 SM x1 hf
        · have hf := kB_f hf c4
          refine z_aload_n (pc := 23) (k0 := 0) E dX12_settle_23 rfl rfl ?_
          refine gM_26 (pc := 24) (i := 0) E rfl wd_4_21 dX12_settle_24 ?_
          refine z_aload_n (pc := 27) (k0 := 0) E dX12_settle_27 rfl rfl ?_
          refine gM_28 (pc := 28) (i := 0) E rfl wd_4_23 dX12_settle_28 ?_
          refine z_iconst (pc := 31) (v := 1) E dX12_settle_31 (by decide) ?_
          obtain ⟨v5, e_v5, hf⟩ := kL_e hf
          refine z_isub (pc := 32) (v := v5) E dX12_settle_32 e_v5 ?_
          obtain ⟨c6, hf⟩ := kO_e hf
          refine lM_26 (pc := 33) (i := 0) E rfl c6 dX12_settle_33 ?_
          refine z_bipush (pc := 34) (v := 124) E dX12_settle_34 (by decide) ?_
          refine z_icmp_ne (pc := 36) (tgt := 72) E dX12_settle_36 (by decide) (fun c7 => ?_) (fun c7 => ?_)
          · have hf := kB_f hf c7
            cases hf
            exact z_vret E hr dX12_settle_72
          · have hf := kB_t hf c7
            refine z_iload_n (pc := 39) (k0 := 1) E dX12_settle_39 rfl rfl ?_
            refine z_bipush (pc := 40) (v := 38) E dX12_settle_40 (by decide) ?_
            refine z_icmp_eq (pc := 42) (tgt := 72) E dX12_settle_42 (by decide) (fun c8 => ?_) (fun c8 => ?_)
            · have hf := kB_t hf c8
              cases hf
              exact z_vret E hr dX12_settle_72
            · have hf := kB_f hf c8
              exact B45 SM x1 hf
  unfold f_X12_settle at hf
  exact L0 N SM a1 hf
noncomputable def f_X12_place (SM : zMS) (a1 : Int32) : Option Int32 := kB (a1 = 99) (some (3)) (kB (a1 = 100) (some ((-1))) (kB (a1 = 101) (some ((-1))) (kB (a1 = 102) (some ((-1))) (kB (a1 = 103) (some ((-1))) (kB (a1 = 104) (some (5)) (kB (a1 = 105) (some ((-1))) (kB (a1 = 106) (some ((-1))) (kB (a1 = 107) (some (1)) (kB (a1 = 108) (some ((-1))) (kB (a1 = 109) (some ((-1))) (kB (a1 = 110) (some (4)) (kB (a1 = 111) (some ((-1))) (kB (a1 = 112) (some (0)) (kB (a1 = 113) (some ((-1))) (kB (a1 = 114) (some ((-1))) (kB (a1 = 115) (some ((-1))) (kB (a1 = 116) (some (2)) (some ((-1))))))))))))))))))))
theorem wv_X12_place : zWV RX12 yX12_place cX12_place 2 (some .int) 1 := ⟨wd_27_22, wd_27_23, wd_1_5, wd_28_0, by decide +kernel⟩
def rm_X12_place : Room := { frames := 0, cells := 0, slots := 0, locals := 0 }
set_option maxHeartbeats 4000000 in
set_option maxRecDepth 100000 in
theorem c_X12_place {l : Launch} {G : va_G} {ct : Nat → ClassId} {aM : Nat → Nat} {SM : zMS} {a1 : Int32} {r0 : Int32} (hf : f_X12_place SM a1 = some r0) : zC l yX12_place cX12_place 2 (some .int) rm_X12_place G ct [.ref (aM 200), .int a1] [wM aM ct SM] [wM aM ct SM] (some (.int r0)) 0 0 := by
  refine z_enter (own := RX12) (lv := [(0, .ref (aM 200)), (1, .int a1)]) (by decide) rfl (Nat.le_of_ble_eq_true rfl) rfl ?_
  intro p e s m args below meth c A E hr hnm
  unfold f_X12_place at hf
  refine z_iload_n (pc := 0) (k0 := 1) E dX12_place_0 rfl rfl ?_
  by_cases c1 : a1 = 99
  · have hf := kB_t hf c1
    refine z_tswIn (pc := 1) (tgt := 94) (v := 99) (n := 99) (off := 93) E dX12_place_1 c1 (by decide) (by decide) (by decide) (by decide) (by decide) ?_
    refine z_iconst (pc := 94) (v := 3) E dX12_place_94 (by decide) ?_
    cases hf
    exact z_iret E hr dX12_place_95
  have hf := kB_f hf c1
  by_cases c2 : a1 = 100
  · have hf := kB_t hf c2
    refine z_tswIn (pc := 1) (tgt := 100) (v := 100) (n := 100) (off := 99) E dX12_place_1 c2 (by decide) (by decide) (by decide) (by decide) (by decide) ?_
    refine z_iconst (pc := 100) (v := (-1)) E dX12_place_100 (by decide) ?_
    cases hf
    exact z_iret E hr dX12_place_101
  have hf := kB_f hf c2
  by_cases c3 : a1 = 101
  · have hf := kB_t hf c3
    refine z_tswIn (pc := 1) (tgt := 100) (v := 101) (n := 101) (off := 99) E dX12_place_1 c3 (by decide) (by decide) (by decide) (by decide) (by decide) ?_
    refine z_iconst (pc := 100) (v := (-1)) E dX12_place_100 (by decide) ?_
    cases hf
    exact z_iret E hr dX12_place_101
  have hf := kB_f hf c3
  by_cases c4 : a1 = 102
  · have hf := kB_t hf c4
    refine z_tswIn (pc := 1) (tgt := 100) (v := 102) (n := 102) (off := 99) E dX12_place_1 c4 (by decide) (by decide) (by decide) (by decide) (by decide) ?_
    refine z_iconst (pc := 100) (v := (-1)) E dX12_place_100 (by decide) ?_
    cases hf
    exact z_iret E hr dX12_place_101
  have hf := kB_f hf c4
  by_cases c5 : a1 = 103
  · have hf := kB_t hf c5
    refine z_tswIn (pc := 1) (tgt := 100) (v := 103) (n := 103) (off := 99) E dX12_place_1 c5 (by decide) (by decide) (by decide) (by decide) (by decide) ?_
    refine z_iconst (pc := 100) (v := (-1)) E dX12_place_100 (by decide) ?_
    cases hf
    exact z_iret E hr dX12_place_101
  have hf := kB_f hf c5
  by_cases c6 : a1 = 104
  · have hf := kB_t hf c6
    refine z_tswIn (pc := 1) (tgt := 98) (v := 104) (n := 104) (off := 97) E dX12_place_1 c6 (by decide) (by decide) (by decide) (by decide) (by decide) ?_
    refine z_iconst (pc := 98) (v := 5) E dX12_place_98 (by decide) ?_
    cases hf
    exact z_iret E hr dX12_place_99
  have hf := kB_f hf c6
  by_cases c7 : a1 = 105
  · have hf := kB_t hf c7
    refine z_tswIn (pc := 1) (tgt := 100) (v := 105) (n := 105) (off := 99) E dX12_place_1 c7 (by decide) (by decide) (by decide) (by decide) (by decide) ?_
    refine z_iconst (pc := 100) (v := (-1)) E dX12_place_100 (by decide) ?_
    cases hf
    exact z_iret E hr dX12_place_101
  have hf := kB_f hf c7
  by_cases c8 : a1 = 106
  · have hf := kB_t hf c8
    refine z_tswIn (pc := 1) (tgt := 100) (v := 106) (n := 106) (off := 99) E dX12_place_1 c8 (by decide) (by decide) (by decide) (by decide) (by decide) ?_
    refine z_iconst (pc := 100) (v := (-1)) E dX12_place_100 (by decide) ?_
    cases hf
    exact z_iret E hr dX12_place_101
  have hf := kB_f hf c8
  by_cases c9 : a1 = 107
  · have hf := kB_t hf c9
    refine z_tswIn (pc := 1) (tgt := 90) (v := 107) (n := 107) (off := 89) E dX12_place_1 c9 (by decide) (by decide) (by decide) (by decide) (by decide) ?_
    refine z_iconst (pc := 90) (v := 1) E dX12_place_90 (by decide) ?_
    cases hf
    exact z_iret E hr dX12_place_91
  have hf := kB_f hf c9
  by_cases c10 : a1 = 108
  · have hf := kB_t hf c10
    refine z_tswIn (pc := 1) (tgt := 100) (v := 108) (n := 108) (off := 99) E dX12_place_1 c10 (by decide) (by decide) (by decide) (by decide) (by decide) ?_
    refine z_iconst (pc := 100) (v := (-1)) E dX12_place_100 (by decide) ?_
    cases hf
    exact z_iret E hr dX12_place_101
  have hf := kB_f hf c10
  by_cases c11 : a1 = 109
  · have hf := kB_t hf c11
    refine z_tswIn (pc := 1) (tgt := 100) (v := 109) (n := 109) (off := 99) E dX12_place_1 c11 (by decide) (by decide) (by decide) (by decide) (by decide) ?_
    refine z_iconst (pc := 100) (v := (-1)) E dX12_place_100 (by decide) ?_
    cases hf
    exact z_iret E hr dX12_place_101
  have hf := kB_f hf c11
  by_cases c12 : a1 = 110
  · have hf := kB_t hf c12
    refine z_tswIn (pc := 1) (tgt := 96) (v := 110) (n := 110) (off := 95) E dX12_place_1 c12 (by decide) (by decide) (by decide) (by decide) (by decide) ?_
    refine z_iconst (pc := 96) (v := 4) E dX12_place_96 (by decide) ?_
    cases hf
    exact z_iret E hr dX12_place_97
  have hf := kB_f hf c12
  by_cases c13 : a1 = 111
  · have hf := kB_t hf c13
    refine z_tswIn (pc := 1) (tgt := 100) (v := 111) (n := 111) (off := 99) E dX12_place_1 c13 (by decide) (by decide) (by decide) (by decide) (by decide) ?_
    refine z_iconst (pc := 100) (v := (-1)) E dX12_place_100 (by decide) ?_
    cases hf
    exact z_iret E hr dX12_place_101
  have hf := kB_f hf c13
  by_cases c14 : a1 = 112
  · have hf := kB_t hf c14
    refine z_tswIn (pc := 1) (tgt := 88) (v := 112) (n := 112) (off := 87) E dX12_place_1 c14 (by decide) (by decide) (by decide) (by decide) (by decide) ?_
    refine z_iconst (pc := 88) (v := 0) E dX12_place_88 (by decide) ?_
    cases hf
    exact z_iret E hr dX12_place_89
  have hf := kB_f hf c14
  by_cases c15 : a1 = 113
  · have hf := kB_t hf c15
    refine z_tswIn (pc := 1) (tgt := 100) (v := 113) (n := 113) (off := 99) E dX12_place_1 c15 (by decide) (by decide) (by decide) (by decide) (by decide) ?_
    refine z_iconst (pc := 100) (v := (-1)) E dX12_place_100 (by decide) ?_
    cases hf
    exact z_iret E hr dX12_place_101
  have hf := kB_f hf c15
  by_cases c16 : a1 = 114
  · have hf := kB_t hf c16
    refine z_tswIn (pc := 1) (tgt := 100) (v := 114) (n := 114) (off := 99) E dX12_place_1 c16 (by decide) (by decide) (by decide) (by decide) (by decide) ?_
    refine z_iconst (pc := 100) (v := (-1)) E dX12_place_100 (by decide) ?_
    cases hf
    exact z_iret E hr dX12_place_101
  have hf := kB_f hf c16
  by_cases c17 : a1 = 115
  · have hf := kB_t hf c17
    refine z_tswIn (pc := 1) (tgt := 100) (v := 115) (n := 115) (off := 99) E dX12_place_1 c17 (by decide) (by decide) (by decide) (by decide) (by decide) ?_
    refine z_iconst (pc := 100) (v := (-1)) E dX12_place_100 (by decide) ?_
    cases hf
    exact z_iret E hr dX12_place_101
  have hf := kB_f hf c17
  by_cases c18 : a1 = 116
  · have hf := kB_t hf c18
    refine z_tswIn (pc := 1) (tgt := 92) (v := 116) (n := 116) (off := 91) E dX12_place_1 c18 (by decide) (by decide) (by decide) (by decide) (by decide) ?_
    refine z_iconst (pc := 92) (v := 2) E dX12_place_92 (by decide) ?_
    cases hf
    exact z_iret E hr dX12_place_93
  have hf := kB_f hf c18
  refine z_tswOut (pc := 1) (tgt := 100) E dX12_place_1 (by have n_c1 := lv_neT c1 (a := 99) (by decide); have n_c2 := lv_neT c2 (a := 100) (by decide); have n_c3 := lv_neT c3 (a := 101) (by decide); have n_c4 := lv_neT c4 (a := 102) (by decide); have n_c5 := lv_neT c5 (a := 103) (by decide); have n_c6 := lv_neT c6 (a := 104) (by decide); have n_c7 := lv_neT c7 (a := 105) (by decide); have n_c8 := lv_neT c8 (a := 106) (by decide); have n_c9 := lv_neT c9 (a := 107) (by decide); have n_c10 := lv_neT c10 (a := 108) (by decide); have n_c11 := lv_neT c11 (a := 109) (by decide); have n_c12 := lv_neT c12 (a := 110) (by decide); have n_c13 := lv_neT c13 (a := 111) (by decide); have n_c14 := lv_neT c14 (a := 112) (by decide); have n_c15 := lv_neT c15 (a := 113) (by decide); have n_c16 := lv_neT c16 (a := 114) (by decide); have n_c17 := lv_neT c17 (a := 115) (by decide); have n_c18 := lv_neT c18 (a := 116) (by decide); omega) (by decide) ?_
  refine z_iconst (pc := 100) (v := (-1)) E dX12_place_100 (by decide) ?_
  cases hf
  exact z_iret E hr dX12_place_101
noncomputable def f_X12_takesTest (N : Nat) (SM : zMS) : Option (Int32 × zMS) := kC (f_X12_next SM) (fun r1 => kC (f_X12_place SM r1) (fun r3 => kB (0 ≤ r3) (kL ((SM.1 17) + 1) (fun v6 => kL (mSI SM 17 v6) (fun SM_7 => kC (f_X12_next SM_7) (fun r8 => kC (f_X12_in SM_7 r8 60 62) (fun r10 => kB (r10 = 0) (some (0, SM_7)) (kL ((SM_7.1 17) + 1) (fun v13 => kL (mSI SM_7 17 v13) (fun SM_14 => kD (f_X12_takesNumber N SM_14) (fun r15 SM_16 => kB (r15 = 0) (some (0, SM_16)) (kL ((1000 : Int32) * r3) (fun v19 => kL (r8 - 60) (fun v20 => kL ((100 : Int32) * v20) (fun v21 => kL (v19 + v21) (fun v22 => kL (v22 + (SM_16.1 18)) (fun v23 => kC (f_X12_emits SM_16 v23) (fun SM_24 => kC (f_X12_whole N SM_24) (fun SM_26 => some (1, SM_26)))))))))))))))))) (some (0, SM))))
theorem wv_X12_takesTest : zWV RX12 yX12_takesTest cX12_takesTest 3 (some .boolean) 0 := ⟨wd_27_18, wd_27_19, wd_1_5, wd_27_20, by decide +kernel⟩
def rm_X12_takesTest : Room := { frames := 3, cells := 0, slots := 0, locals := 64 }
set_option maxHeartbeats 4000000 in
set_option maxRecDepth 100000 in
theorem c_X12_takesTest {l : Launch} {G : va_G} {ct : Nat → ClassId} {aM : Nat → Nat} {N : Nat} {SM : zMS} {r0 : Int32} {OM : zMS} (hf : f_X12_takesTest N SM = some (r0, OM)) : zC l yX12_takesTest cX12_takesTest 3 (some .boolean) rm_X12_takesTest G ct [.ref (aM 200)] [wM aM ct SM] [wM aM ct OM] (some (.int r0)) 0 0 := by
  refine z_enter (own := RX12) (lv := [(0, .ref (aM 200))]) (by decide) rfl (Nat.le_of_ble_eq_true rfl) rfl ?_
  intro p e s m args below meth c A E hr hnm
  unfold f_X12_takesTest at hf
  refine z_aload_n (pc := 0) (k0 := 0) E dX12_takesTest_0 rfl rfl ?_
  refine z_aload_n (pc := 1) (k0 := 0) E dX12_takesTest_1 rfl rfl ?_
  obtain ⟨r1, h2, hf⟩ := kC_e hf
  refine z_callV0 (pc := 2) (is := [0]) (n := 0) (As := []) (st := [.ref (aM 200)]) (st' := [.int r1, .ref (aM 200)]) (C2 := [wM aM ct SM]) E (c_X12_next (l := l) (G := G) (ct := ct) (aM := aM) h2) wv_X12_next wd_26_17 ⟨Nat.le_of_ble_eq_true rfl, Nat.le_of_ble_eq_true rfl, Nat.le_of_ble_eq_true rfl, Nat.le_of_ble_eq_true rfl⟩ rfl rfl rfl (by decide) rfl rfl (zrM (j := 0) rfl) rfl (Nat.le_of_ble_eq_true rfl) dX12_takesTest_2 rfl rfl ?_
  obtain ⟨r3, h4, hf⟩ := kC_e hf
  refine z_callV0 (pc := 5) (is := [0]) (n := 1) (As := [.int r1]) (st := []) (st' := [.int r3]) (C2 := [wM aM ct SM]) E (c_X12_place (l := l) (G := G) (ct := ct) (aM := aM) h4) wv_X12_place wd_27_21 ⟨Nat.le_of_ble_eq_true rfl, Nat.le_of_ble_eq_true rfl, Nat.le_of_ble_eq_true rfl, Nat.le_of_ble_eq_true rfl⟩ rfl rfl rfl (by decide) rfl rfl (zrM (j := 0) rfl) rfl (Nat.le_of_ble_eq_true rfl) dX12_takesTest_5 rfl rfl ?_
  refine z_istore_n (pc := 8) (lv' := [(1, .int r3), (0, .ref (aM 200))]) E dX12_takesTest_8 rfl (by decide) rfl ?_
  refine z_iload_n (pc := 9) (k0 := 0) E dX12_takesTest_9 rfl rfl ?_
  refine z_if_ge (pc := 10) (tgt := 15) E dX12_takesTest_10 (by decide) (fun c5 => ?_) (fun c5 => ?_)
  · have hf := kB_t hf c5
    refine z_aload_n (pc := 15) (k0 := 1) E dX12_takesTest_15 rfl rfl ?_
    refine z_dup (pc := 16) E dX12_takesTest_16 rfl ?_
    refine gM_17 (pc := 17) (i := 0) E rfl wd_4_12 dX12_takesTest_17 ?_
    refine z_iconst (pc := 20) (v := 1) E dX12_takesTest_20 (by decide) ?_
    obtain ⟨v6, e_v6, hf⟩ := kL_e hf
    refine z_iadd (pc := 21) (v := v6) E dX12_takesTest_21 e_v6 ?_
    obtain ⟨SM_7, e_SM_7, hf⟩ := kL_e hf
    refine pM_17 (pc := 22) (i := 0) (S1 := SM_7) E rfl e_SM_7 wd_4_12 dX12_takesTest_22 ?_
    show zJ p l e rm_X12_takesTest s m args below meth c (zQ G ct (some (.int r0)) [wM aM ct OM] A below args s 0 0) A G 3 0 0 [wM aM ct SM_7] [(1, .int r3), (0, .ref (aM 200))] 25 []
    refine z_aload_n (pc := 25) (k0 := 1) E dX12_takesTest_25 rfl rfl ?_
    obtain ⟨r8, h9, hf⟩ := kC_e hf
    refine z_callV0 (pc := 26) (is := [0]) (n := 0) (As := []) (st := []) (st' := [.int r8]) (C2 := [wM aM ct SM_7]) E (c_X12_next (l := l) (G := G) (ct := ct) (aM := aM) h9) wv_X12_next wd_26_17 ⟨Nat.le_of_ble_eq_true rfl, Nat.le_of_ble_eq_true rfl, Nat.le_of_ble_eq_true rfl, Nat.le_of_ble_eq_true rfl⟩ rfl rfl rfl (by decide) rfl rfl (zrM (j := 0) rfl) rfl (Nat.le_of_ble_eq_true rfl) dX12_takesTest_26 rfl rfl ?_
    refine z_istore_n (pc := 29) (lv' := [(2, .int r8), (1, .int r3), (0, .ref (aM 200))]) E dX12_takesTest_29 rfl (by decide) rfl ?_
    refine z_aload_n (pc := 30) (k0 := 2) E dX12_takesTest_30 rfl rfl ?_
    refine z_iload_n (pc := 31) (k0 := 0) E dX12_takesTest_31 rfl rfl ?_
    refine z_bipush (pc := 32) (v := 60) E dX12_takesTest_32 (by decide) ?_
    refine z_bipush (pc := 34) (v := 62) E dX12_takesTest_34 (by decide) ?_
    obtain ⟨r10, h11, hf⟩ := kC_e hf
    refine z_callV0 (pc := 36) (is := [0]) (n := 3) (As := [.int r8, .int 60, .int 62]) (st := []) (st' := [.int r10]) (C2 := [wM aM ct SM_7]) E (c_X12_in (l := l) (G := G) (ct := ct) (aM := aM) h11) wv_X12_in wd_7_11 ⟨Nat.le_of_ble_eq_true rfl, Nat.le_of_ble_eq_true rfl, Nat.le_of_ble_eq_true rfl, Nat.le_of_ble_eq_true rfl⟩ rfl rfl rfl (by decide) rfl rfl (zrM (j := 0) rfl) rfl (Nat.le_of_ble_eq_true rfl) dX12_takesTest_36 rfl rfl ?_
    refine z_if_ne (pc := 39) (tgt := 44) E dX12_takesTest_39 (by decide) (fun c12 => ?_) (fun c12 => ?_)
    · have hf := kB_f hf c12
      refine z_aload_n (pc := 44) (k0 := 2) E dX12_takesTest_44 rfl rfl ?_
      refine z_dup (pc := 45) E dX12_takesTest_45 rfl ?_
      refine gM_17 (pc := 46) (i := 0) E rfl wd_4_12 dX12_takesTest_46 ?_
      refine z_iconst (pc := 49) (v := 1) E dX12_takesTest_49 (by decide) ?_
      obtain ⟨v13, e_v13, hf⟩ := kL_e hf
      refine z_iadd (pc := 50) (v := v13) E dX12_takesTest_50 e_v13 ?_
      obtain ⟨SM_14, e_SM_14, hf⟩ := kL_e hf
      refine pM_17 (pc := 51) (i := 0) (S1 := SM_14) E rfl e_SM_14 wd_4_12 dX12_takesTest_51 ?_
      show zJ p l e rm_X12_takesTest s m args below meth c (zQ G ct (some (.int r0)) [wM aM ct OM] A below args s 0 0) A G 3 0 0 [wM aM ct SM_14] [(2, .int r8), (1, .int r3), (0, .ref (aM 200))] 54 []
      refine z_aload_n (pc := 54) (k0 := 2) E dX12_takesTest_54 rfl rfl ?_
      obtain ⟨r15, SM_16, h17, hf⟩ := kD_e hf
      refine z_callV0 (pc := 55) (is := [0]) (n := 0) (As := []) (st := []) (st' := [.int r15]) (C2 := [wM aM ct SM_16]) E (c_X12_takesNumber (l := l) (G := G) (ct := ct) (aM := aM) h17) wv_X12_takesNumber wd_27_5 ⟨Nat.le_of_ble_eq_true rfl, Nat.le_of_ble_eq_true rfl, Nat.le_of_ble_eq_true rfl, Nat.le_of_ble_eq_true rfl⟩ rfl rfl rfl (by decide) rfl rfl (zrM (j := 0) rfl) rfl (Nat.le_of_ble_eq_true rfl) dX12_takesTest_55 rfl rfl ?_
      refine z_if_ne (pc := 58) (tgt := 63) E dX12_takesTest_58 (by decide) (fun c18 => ?_) (fun c18 => ?_)
      · have hf := kB_f hf c18
        refine z_aload_n (pc := 63) (k0 := 2) E dX12_takesTest_63 rfl rfl ?_
        refine z_sipush (pc := 64) (v := 1000) E dX12_takesTest_64 (by decide) ?_
        refine z_iload_n (pc := 67) (k0 := 1) E dX12_takesTest_67 rfl rfl ?_
        obtain ⟨v19, e_v19, hf⟩ := kL_e hf
        refine z_imul (pc := 68) (v := v19) E dX12_takesTest_68 e_v19 ?_
        refine z_bipush (pc := 69) (v := 100) E dX12_takesTest_69 (by decide) ?_
        refine z_iload_n (pc := 71) (k0 := 0) E dX12_takesTest_71 rfl rfl ?_
        refine z_bipush (pc := 72) (v := 60) E dX12_takesTest_72 (by decide) ?_
        obtain ⟨v20, e_v20, hf⟩ := kL_e hf
        refine z_isub (pc := 74) (v := v20) E dX12_takesTest_74 e_v20 ?_
        obtain ⟨v21, e_v21, hf⟩ := kL_e hf
        refine z_imul (pc := 75) (v := v21) E dX12_takesTest_75 e_v21 ?_
        obtain ⟨v22, e_v22, hf⟩ := kL_e hf
        refine z_iadd (pc := 76) (v := v22) E dX12_takesTest_76 e_v22 ?_
        refine z_aload_n (pc := 77) (k0 := 2) E dX12_takesTest_77 rfl rfl ?_
        refine gM_18 (pc := 78) (i := 0) E rfl wd_4_13 dX12_takesTest_78 ?_
        obtain ⟨v23, e_v23, hf⟩ := kL_e hf
        refine z_iadd (pc := 81) (v := v23) E dX12_takesTest_81 e_v23 ?_
        obtain ⟨SM_24, h25, hf⟩ := kC_e hf
        refine z_callV0 (pc := 82) (is := [0]) (n := 1) (As := [.int v23]) (st := []) (st' := []) (C2 := [wM aM ct SM_24]) E (c_X12_emits (l := l) (G := G) (ct := ct) (aM := aM) h25) wv_X12_emits wd_28_1 ⟨Nat.le_of_ble_eq_true rfl, Nat.le_of_ble_eq_true rfl, Nat.le_of_ble_eq_true rfl, Nat.le_of_ble_eq_true rfl⟩ rfl rfl rfl (by decide) rfl rfl (zrM (j := 0) rfl) rfl (Nat.le_of_ble_eq_true rfl) dX12_takesTest_82 rfl rfl ?_
        refine z_aload_n (pc := 85) (k0 := 2) E dX12_takesTest_85 rfl rfl ?_
        obtain ⟨SM_26, h27, hf⟩ := kC_e hf
        refine z_callV0 (pc := 86) (is := [0]) (n := 0) (As := []) (st := []) (st' := []) (C2 := [wM aM ct SM_26]) E (c_X12_whole (l := l) (G := G) (ct := ct) (aM := aM) h27) wv_X12_whole wd_28_5 ⟨Nat.le_of_ble_eq_true rfl, Nat.le_of_ble_eq_true rfl, Nat.le_of_ble_eq_true rfl, Nat.le_of_ble_eq_true rfl⟩ rfl rfl rfl (by decide) rfl rfl (zrM (j := 0) rfl) rfl (Nat.le_of_ble_eq_true rfl) dX12_takesTest_86 rfl rfl ?_
        refine z_iconst (pc := 89) (v := 1) E dX12_takesTest_89 (by decide) ?_
        cases hf
        exact z_zret E hr (by decide) dX12_takesTest_90
      · have hf := kB_t hf c18
        refine z_iconst (pc := 61) (v := 0) E dX12_takesTest_61 (by decide) ?_
        cases hf
        exact z_zret E hr (by decide) dX12_takesTest_62
    · have hf := kB_t hf c12
      refine z_iconst (pc := 42) (v := 0) E dX12_takesTest_42 (by decide) ?_
      cases hf
      exact z_zret E hr (by decide) dX12_takesTest_43
  · have hf := kB_f hf c5
    refine z_iconst (pc := 13) (v := 0) E dX12_takesTest_13 (by decide) ?_
    cases hf
    exact z_zret E hr (by decide) dX12_takesTest_14
noncomputable def f_X12_takesE_b122 (N : Nat) (k22 : zMS → Int32 → Int32 → Option (Int32 × zMS)) (SM : zMS) (x1 : Int32) (x3 : Int32) : Option (Int32 × zMS) := kC (f_X12_settle N SM x3) (fun SM_30 => kO (¬ ((SM_30.1 28) < 0 ∨ 101 ≤ Int32.toNatClampNeg (SM_30.1 28))) (kL (mSA SM_30 26 (upd (SM_30.2.1 26) (Int32.toNatClampNeg (SM_30.1 28)) x3)) (fun SM_33 => kL ((SM_33.1 28) + 1) (fun v34 => kL (mSI SM_33 28 v34) (fun SM_35 => kL ((SM_35.1 17) + 1) (fun v36 => kL (mSI SM_35 17 v36) (fun SM_37 => k22 SM_37 x1 1)))))))
noncomputable def f_X12_takesE_b43 (N : Nat) (k22 : zMS → Int32 → Int32 → Option (Int32 × zMS)) (SM : zMS) (x1 : Int32) (x2 : Int32) (x3 : Int32) : Option (Int32 × zMS) := kB ((SM.1 29) = 4) (some (0, SM)) (kL ((SM.1 29) + 1) (fun v39 => kL (mSI SM 29 v39) (fun SM_40 => kO (¬ ((SM_40.1 28) < 0 ∨ 101 ≤ Int32.toNatClampNeg (SM_40.1 28))) (kL (mSA SM_40 26 (upd (SM_40.2.1 26) (Int32.toNatClampNeg (SM_40.1 28)) x3)) (fun SM_42 => kL ((SM_42.1 28) + 1) (fun v43 => kL (mSI SM_42 28 v43) (fun SM_44 => kL ((SM_44.1 17) + 1) (fun v45 => kL (mSI SM_44 17 v45) (fun SM_46 => k22 SM_46 x1 x2)))))))))
noncomputable def f_X12_takesE_l22 (N : Nat) : Nat → zMS → Int32 → Int32 → Option (Int32 × zMS) := fun n => Nat.rec (motive := fun _ => zMS → Int32 → Int32 → Option (Int32 × zMS)) (fun _ _ _ => none) (fun _ ih SM x1 x2 => kC (f_X12_next SM) (fun r5 => kB (x2 = 0) (kB (r5 = 38) (f_X12_takesE_b122 N ih SM x1 r5) (kB (r5 = 124) (f_X12_takesE_b122 N ih SM x1 r5) (kC (f_X12_settle N SM 124) (fun SM_10 => kO (¬ (x1 < 0 ∨ 60 ≤ Int32.toNatClampNeg x1)) (kL (mSA SM_10 24 (upd (SM_10.2.1 24) (Int32.toNatClampNeg x1) (SM_10.1 27))) (fun SM_13 => kB ((SM_13.1 28) = 0) (some (1, SM_13)) (kB (r5 = 41) (kL ((SM_13.1 28) - 1) (fun v16 => kL (mSI SM_13 28 v16) (fun SM_17 => kL ((SM_17.1 29) - 1) (fun v18 => kL (mSI SM_17 29 v18) (fun SM_19 => kL ((SM_19.1 17) + 1) (fun v20 => kL (mSI SM_19 17 v20) (fun SM_21 => kC (f_X12_whole N SM_21) (fun SM_22 => ih SM_22 x1 x2)))))))) (some (0, SM_13))))))))) (kB (r5 = 33) (f_X12_takesE_b43 N ih SM x1 x2 r5) (kB (r5 = 40) (f_X12_takesE_b43 N ih SM x1 x2 r5) (kD (f_X12_takesTest N SM) (fun r26 SM_27 => kB (r26 = 0) (some (0, SM_27)) (ih SM_27 x1 0))))))) n
theorem f_X12_takesE_l22_z (N : Nat) (SM : zMS) (x1 : Int32) (x2 : Int32) : f_X12_takesE_l22 N 0 SM x1 x2 = none := rfl
theorem f_X12_takesE_l22_s (N : Nat) (n : Nat) (SM : zMS) (x1 : Int32) (x2 : Int32) : f_X12_takesE_l22 N (n + 1) SM x1 x2 = kC (f_X12_next SM) (fun r5 => kB (x2 = 0) (kB (r5 = 38) (f_X12_takesE_b122 N (f_X12_takesE_l22 N n) SM x1 r5) (kB (r5 = 124) (f_X12_takesE_b122 N (f_X12_takesE_l22 N n) SM x1 r5) (kC (f_X12_settle N SM 124) (fun SM_10 => kO (¬ (x1 < 0 ∨ 60 ≤ Int32.toNatClampNeg x1)) (kL (mSA SM_10 24 (upd (SM_10.2.1 24) (Int32.toNatClampNeg x1) (SM_10.1 27))) (fun SM_13 => kB ((SM_13.1 28) = 0) (some (1, SM_13)) (kB (r5 = 41) (kL ((SM_13.1 28) - 1) (fun v16 => kL (mSI SM_13 28 v16) (fun SM_17 => kL ((SM_17.1 29) - 1) (fun v18 => kL (mSI SM_17 29 v18) (fun SM_19 => kL ((SM_19.1 17) + 1) (fun v20 => kL (mSI SM_19 17 v20) (fun SM_21 => kC (f_X12_whole N SM_21) (fun SM_22 => (f_X12_takesE_l22 N n) SM_22 x1 x2)))))))) (some (0, SM_13))))))))) (kB (r5 = 33) (f_X12_takesE_b43 N (f_X12_takesE_l22 N n) SM x1 x2 r5) (kB (r5 = 40) (f_X12_takesE_b43 N (f_X12_takesE_l22 N n) SM x1 x2 r5) (kD (f_X12_takesTest N SM) (fun r26 SM_27 => kB (r26 = 0) (some (0, SM_27)) ((f_X12_takesE_l22 N n) SM_27 x1 0)))))) := rfl
noncomputable def f_X12_takesE (N : Nat) (SM : zMS) (a1 : Int32) : Option (Int32 × zMS) := kL (mSI SM 28 0) (fun SM_1 => kL (mSI SM_1 29 0) (fun SM_2 => kO (¬ (a1 < 0 ∨ 60 ≤ Int32.toNatClampNeg a1)) (kL (mSA SM_2 23 (upd (SM_2.2.1 23) (Int32.toNatClampNeg a1) (SM_2.1 27))) (fun SM_4 => f_X12_takesE_l22 N N SM_4 a1 1))))
theorem wv_X12_takesE : zWV RX12 yX12_takesE cX12_takesE 4 (some .boolean) 1 := ⟨wd_27_14, wd_27_15, wd_1_5, wd_27_16, by decide +kernel⟩
def rm_X12_takesE : Room := { frames := 4, cells := 0, slots := 0, locals := 86 }
set_option maxHeartbeats 4000000 in
set_option maxRecDepth 100000 in
theorem c_X12_takesE {l : Launch} {G : va_G} {ct : Nat → ClassId} {aM : Nat → Nat} {N : Nat} {SM : zMS} {a1 : Int32} {r0 : Int32} {OM : zMS} (hf : f_X12_takesE N SM a1 = some (r0, OM)) : zC l yX12_takesE cX12_takesE 4 (some .boolean) rm_X12_takesE G ct [.ref (aM 200), .int a1] [wM aM ct SM] [wM aM ct OM] (some (.int r0)) 0 0 := by
  refine z_enter (own := RX12) (lv := [(0, .ref (aM 200)), (1, .int a1)]) (by decide) rfl (Nat.le_of_ble_eq_true rfl) rfl ?_
  intro p e s m args below meth c A E hr hnm
  have L22 : ∀ (n22 : Nat) (SM : zMS) (x1 : Int32) (x2 : Int32), f_X12_takesE_l22 N n22 SM x1 x2 = some (r0, OM) → zJ p l e rm_X12_takesE s m args below meth c (zQ G ct (some (.int r0)) [wM aM ct OM] A below args s 0 0) A G 4 0 0 [wM aM ct SM] [(0, .ref (aM 200)), (1, .int x1), (2, .int x2)] 22 [] := by
    intro n22
    induction n22 with
    | zero =>
      intro SM x1 x2 hf
      rw [f_X12_takesE_l22_z] at hf
      cases hf
    | succ n22 ih22 =>
      have B122 : ∀ (SM : zMS) (x1 : Int32) (x3 : Int32), f_X12_takesE_b122 N (f_X12_takesE_l22 N n22) SM x1 x3 = some (r0, OM) → zJ p l e rm_X12_takesE s m args below meth c (zQ G ct (some (.int r0)) [wM aM ct OM] A below args s 0 0) A G 4 0 0 [wM aM ct SM] [(0, .ref (aM 200)), (1, .int x1), (3, .int x3)] 122 [] := by
        intro SM x1 x3 hf
        unfold f_X12_takesE_b122 at hf
        refine z_aload_n (pc := 122) (k0 := 0) E dX12_takesE_122 rfl rfl ?_
        refine z_iload_n (pc := 123) (k0 := 2) E dX12_takesE_123 rfl rfl ?_
        obtain ⟨SM_30, h31, hf⟩ := kC_e hf
        refine z_callV0 (pc := 124) (is := [0]) (n := 1) (As := [.int x3]) (st := []) (st' := []) (C2 := [wM aM ct SM_30]) E (c_X12_settle (l := l) (G := G) (ct := ct) (aM := aM) h31) wv_X12_settle wd_28_9 ⟨Nat.le_of_ble_eq_true rfl, Nat.le_of_ble_eq_true rfl, Nat.le_of_ble_eq_true rfl, Nat.le_of_ble_eq_true rfl⟩ rfl rfl rfl (by decide) rfl rfl (zrM (j := 0) rfl) rfl (Nat.le_of_ble_eq_true rfl) dX12_takesE_124 rfl rfl ?_
        refine z_aload_n (pc := 127) (k0 := 0) E dX12_takesE_127 rfl rfl ?_
        refine gM_26 (pc := 128) (i := 0) E rfl wd_4_21 dX12_takesE_128 ?_
        refine z_aload_n (pc := 131) (k0 := 0) E dX12_takesE_131 rfl rfl ?_
        refine gM_28 (pc := 132) (i := 0) E rfl wd_4_23 dX12_takesE_132 ?_
        refine z_iload_n (pc := 135) (k0 := 2) E dX12_takesE_135 rfl rfl ?_
        obtain ⟨c32, hf⟩ := kO_e hf
        obtain ⟨SM_33, e_SM_33, hf⟩ := kL_e hf
        refine sM_26 (pc := 136) (i := 0) (S1 := SM_33) E rfl c32 e_SM_33 dX12_takesE_136 ?_
        show zJ p l e rm_X12_takesE s m args below meth c (zQ G ct (some (.int r0)) [wM aM ct OM] A below args s 0 0) A G 4 0 0 [wM aM ct SM_33] [(0, .ref (aM 200)), (1, .int x1), (3, .int x3)] 137 []
        refine z_aload_n (pc := 137) (k0 := 0) E dX12_takesE_137 rfl rfl ?_
        refine z_dup (pc := 138) E dX12_takesE_138 rfl ?_
        refine gM_28 (pc := 139) (i := 0) E rfl wd_4_23 dX12_takesE_139 ?_
        refine z_iconst (pc := 142) (v := 1) E dX12_takesE_142 (by decide) ?_
        obtain ⟨v34, e_v34, hf⟩ := kL_e hf
        refine z_iadd (pc := 143) (v := v34) E dX12_takesE_143 e_v34 ?_
        obtain ⟨SM_35, e_SM_35, hf⟩ := kL_e hf
        refine pM_28 (pc := 144) (i := 0) (S1 := SM_35) E rfl e_SM_35 wd_4_23 dX12_takesE_144 ?_
        show zJ p l e rm_X12_takesE s m args below meth c (zQ G ct (some (.int r0)) [wM aM ct OM] A below args s 0 0) A G 4 0 0 [wM aM ct SM_35] [(0, .ref (aM 200)), (1, .int x1), (3, .int x3)] 147 []
        refine z_iconst (pc := 147) (v := 1) E dX12_takesE_147 (by decide) ?_
        refine z_istore_n (pc := 148) (lv' := [(2, .int 1), (0, .ref (aM 200)), (1, .int x1), (3, .int x3)]) E dX12_takesE_148 rfl (by decide) rfl ?_
        refine z_aload_n (pc := 149) (k0 := 1) E dX12_takesE_149 rfl rfl ?_
        refine z_dup (pc := 150) E dX12_takesE_150 rfl ?_
        refine gM_17 (pc := 151) (i := 0) E rfl wd_4_12 dX12_takesE_151 ?_
        refine z_iconst (pc := 154) (v := 1) E dX12_takesE_154 (by decide) ?_
        obtain ⟨v36, e_v36, hf⟩ := kL_e hf
        refine z_iadd (pc := 155) (v := v36) E dX12_takesE_155 e_v36 ?_
        obtain ⟨SM_37, e_SM_37, hf⟩ := kL_e hf
        refine pM_17 (pc := 156) (i := 0) (S1 := SM_37) E rfl e_SM_37 wd_4_12 dX12_takesE_156 ?_
        show zJ p l e rm_X12_takesE s m args below meth c (zQ G ct (some (.int r0)) [wM aM ct OM] A below args s 0 0) A G 4 0 0 [wM aM ct SM_37] [(2, .int 1), (0, .ref (aM 200)), (1, .int x1), (3, .int x3)] 159 []
        refine z_goto (pc := 159) (tgt := 22) E dX12_takesE_159 (by decide) ?_
        refine z_sub [1, 2, 0] (lv' := [(0, .ref (aM 200)), (1, .int x1), (2, .int 1)]) rfl ?_
        exact ih22 SM_37 x1 1 hf
      have B43 : ∀ (SM : zMS) (x1 : Int32) (x2 : Int32) (x3 : Int32), f_X12_takesE_b43 N (f_X12_takesE_l22 N n22) SM x1 x2 x3 = some (r0, OM) → zJ p l e rm_X12_takesE s m args below meth c (zQ G ct (some (.int r0)) [wM aM ct OM] A below args s 0 0) A G 4 0 0 [wM aM ct SM] [(0, .ref (aM 200)), (1, .int x1), (2, .int x2), (3, .int x3)] 43 [] := by
        intro SM x1 x2 x3 hf
        unfold f_X12_takesE_b43 at hf
        refine z_aload_n (pc := 43) (k0 := 0) E dX12_takesE_43 rfl rfl ?_
        refine gM_29 (pc := 44) (i := 0) E rfl wd_5_0 dX12_takesE_44 ?_
        refine z_iconst (pc := 47) (v := 4) E dX12_takesE_47 (by decide) ?_
        refine z_icmp_ne (pc := 48) (tgt := 53) E dX12_takesE_48 (by decide) (fun c38 => ?_) (fun c38 => ?_)
        · have hf := kB_f hf c38
          refine z_aload_n (pc := 53) (k0 := 0) E dX12_takesE_53 rfl rfl ?_
          refine z_dup (pc := 54) E dX12_takesE_54 rfl ?_
          refine gM_29 (pc := 55) (i := 0) E rfl wd_5_0 dX12_takesE_55 ?_
          refine z_iconst (pc := 58) (v := 1) E dX12_takesE_58 (by decide) ?_
          obtain ⟨v39, e_v39, hf⟩ := kL_e hf
          refine z_iadd (pc := 59) (v := v39) E dX12_takesE_59 e_v39 ?_
          obtain ⟨SM_40, e_SM_40, hf⟩ := kL_e hf
          refine pM_29 (pc := 60) (i := 0) (S1 := SM_40) E rfl e_SM_40 wd_5_0 dX12_takesE_60 ?_
          show zJ p l e rm_X12_takesE s m args below meth c (zQ G ct (some (.int r0)) [wM aM ct OM] A below args s 0 0) A G 4 0 0 [wM aM ct SM_40] [(0, .ref (aM 200)), (1, .int x1), (2, .int x2), (3, .int x3)] 63 []
          refine z_aload_n (pc := 63) (k0 := 0) E dX12_takesE_63 rfl rfl ?_
          refine gM_26 (pc := 64) (i := 0) E rfl wd_4_21 dX12_takesE_64 ?_
          refine z_aload_n (pc := 67) (k0 := 0) E dX12_takesE_67 rfl rfl ?_
          refine gM_28 (pc := 68) (i := 0) E rfl wd_4_23 dX12_takesE_68 ?_
          refine z_iload_n (pc := 71) (k0 := 3) E dX12_takesE_71 rfl rfl ?_
          obtain ⟨c41, hf⟩ := kO_e hf
          obtain ⟨SM_42, e_SM_42, hf⟩ := kL_e hf
          refine sM_26 (pc := 72) (i := 0) (S1 := SM_42) E rfl c41 e_SM_42 dX12_takesE_72 ?_
          show zJ p l e rm_X12_takesE s m args below meth c (zQ G ct (some (.int r0)) [wM aM ct OM] A below args s 0 0) A G 4 0 0 [wM aM ct SM_42] [(0, .ref (aM 200)), (1, .int x1), (2, .int x2), (3, .int x3)] 73 []
          refine z_aload_n (pc := 73) (k0 := 0) E dX12_takesE_73 rfl rfl ?_
          refine z_dup (pc := 74) E dX12_takesE_74 rfl ?_
          refine gM_28 (pc := 75) (i := 0) E rfl wd_4_23 dX12_takesE_75 ?_
          refine z_iconst (pc := 78) (v := 1) E dX12_takesE_78 (by decide) ?_
          obtain ⟨v43, e_v43, hf⟩ := kL_e hf
          refine z_iadd (pc := 79) (v := v43) E dX12_takesE_79 e_v43 ?_
          obtain ⟨SM_44, e_SM_44, hf⟩ := kL_e hf
          refine pM_28 (pc := 80) (i := 0) (S1 := SM_44) E rfl e_SM_44 wd_4_23 dX12_takesE_80 ?_
          show zJ p l e rm_X12_takesE s m args below meth c (zQ G ct (some (.int r0)) [wM aM ct OM] A below args s 0 0) A G 4 0 0 [wM aM ct SM_44] [(0, .ref (aM 200)), (1, .int x1), (2, .int x2), (3, .int x3)] 83 []
          refine z_aload_n (pc := 83) (k0 := 0) E dX12_takesE_83 rfl rfl ?_
          refine z_dup (pc := 84) E dX12_takesE_84 rfl ?_
          refine gM_17 (pc := 85) (i := 0) E rfl wd_4_12 dX12_takesE_85 ?_
          refine z_iconst (pc := 88) (v := 1) E dX12_takesE_88 (by decide) ?_
          obtain ⟨v45, e_v45, hf⟩ := kL_e hf
          refine z_iadd (pc := 89) (v := v45) E dX12_takesE_89 e_v45 ?_
          obtain ⟨SM_46, e_SM_46, hf⟩ := kL_e hf
          refine pM_17 (pc := 90) (i := 0) (S1 := SM_46) E rfl e_SM_46 wd_4_12 dX12_takesE_90 ?_
          show zJ p l e rm_X12_takesE s m args below meth c (zQ G ct (some (.int r0)) [wM aM ct OM] A below args s 0 0) A G 4 0 0 [wM aM ct SM_46] [(0, .ref (aM 200)), (1, .int x1), (2, .int x2), (3, .int x3)] 93 []
          refine z_goto (pc := 93) (tgt := 22) E dX12_takesE_93 (by decide) ?_
          refine z_sub [0, 1, 2] (lv' := [(0, .ref (aM 200)), (1, .int x1), (2, .int x2)]) rfl ?_
          exact ih22 SM_46 x1 x2 hf
        · have hf := kB_t hf c38
          refine z_iconst (pc := 51) (v := 0) E dX12_takesE_51 (by decide) ?_
          cases hf
          exact z_zret E hr (by decide) dX12_takesE_52
      intro SM x1 x2 hf
      rw [f_X12_takesE_l22_s] at hf
      refine z_aload_n (pc := 22) (k0 := 0) E dX12_takesE_22 rfl rfl ?_
      obtain ⟨r5, h6, hf⟩ := kC_e hf
      refine z_callV0 (pc := 23) (is := [0]) (n := 0) (As := []) (st := []) (st' := [.int r5]) (C2 := [wM aM ct SM]) E (c_X12_next (l := l) (G := G) (ct := ct) (aM := aM) h6) wv_X12_next wd_26_17 ⟨Nat.le_of_ble_eq_true rfl, Nat.le_of_ble_eq_true rfl, Nat.le_of_ble_eq_true rfl, Nat.le_of_ble_eq_true rfl⟩ rfl rfl rfl (by decide) rfl rfl (zrM (j := 0) rfl) rfl (Nat.le_of_ble_eq_true rfl) dX12_takesE_23 rfl rfl ?_
      refine z_istore_n (pc := 26) (lv' := [(3, .int r5), (0, .ref (aM 200)), (1, .int x1), (2, .int x2)]) E dX12_takesE_26 rfl (by decide) rfl ?_
      refine z_iload_n (pc := 27) (k0 := 3) E dX12_takesE_27 rfl rfl ?_
      refine z_if_eq (pc := 28) (tgt := 110) E dX12_takesE_28 (by decide) (fun c7 => ?_) (fun c7 => ?_)
      · have hf := kB_t hf c7
        refine z_iload_n (pc := 110) (k0 := 0) E dX12_takesE_110 rfl rfl ?_
        refine z_bipush (pc := 111) (v := 38) E dX12_takesE_111 (by decide) ?_
        refine z_icmp_eq (pc := 113) (tgt := 122) E dX12_takesE_113 (by decide) (fun c8 => ?_) (fun c8 => ?_)
        · have hf := kB_t hf c8
          refine z_sub [1, 2, 0] (lv' := [(0, .ref (aM 200)), (1, .int x1), (3, .int r5)]) rfl ?_
          exact B122 SM x1 r5 hf
        · have hf := kB_f hf c8
          refine z_iload_n (pc := 116) (k0 := 0) E dX12_takesE_116 rfl rfl ?_
          refine z_bipush (pc := 117) (v := 124) E dX12_takesE_117 (by decide) ?_
          refine z_icmp_ne (pc := 119) (tgt := 162) E dX12_takesE_119 (by decide) (fun c9 => ?_) (fun c9 => ?_)
          · have hf := kB_f hf c9
            refine z_aload_n (pc := 162) (k0 := 1) E dX12_takesE_162 rfl rfl ?_
            refine z_bipush (pc := 163) (v := 124) E dX12_takesE_163 (by decide) ?_
            obtain ⟨SM_10, h11, hf⟩ := kC_e hf
            refine z_callV0 (pc := 165) (is := [0]) (n := 1) (As := [.int 124]) (st := []) (st' := []) (C2 := [wM aM ct SM_10]) E (c_X12_settle (l := l) (G := G) (ct := ct) (aM := aM) h11) wv_X12_settle wd_28_9 ⟨Nat.le_of_ble_eq_true rfl, Nat.le_of_ble_eq_true rfl, Nat.le_of_ble_eq_true rfl, Nat.le_of_ble_eq_true rfl⟩ rfl rfl rfl (by decide) rfl rfl (zrM (j := 0) rfl) rfl (Nat.le_of_ble_eq_true rfl) dX12_takesE_165 rfl rfl ?_
            refine z_aload_n (pc := 168) (k0 := 1) E dX12_takesE_168 rfl rfl ?_
            refine gM_24 (pc := 169) (i := 0) E rfl wd_4_19 dX12_takesE_169 ?_
            refine z_iload_n (pc := 172) (k0 := 2) E dX12_takesE_172 rfl rfl ?_
            refine z_aload_n (pc := 173) (k0 := 1) E dX12_takesE_173 rfl rfl ?_
            refine gM_27 (pc := 174) (i := 0) E rfl wd_4_22 dX12_takesE_174 ?_
            obtain ⟨c12, hf⟩ := kO_e hf
            obtain ⟨SM_13, e_SM_13, hf⟩ := kL_e hf
            refine sM_24 (pc := 177) (i := 0) (S1 := SM_13) E rfl c12 e_SM_13 dX12_takesE_177 ?_
            show zJ p l e rm_X12_takesE s m args below meth c (zQ G ct (some (.int r0)) [wM aM ct OM] A below args s 0 0) A G 4 0 0 [wM aM ct SM_13] [(3, .int r5), (0, .ref (aM 200)), (1, .int x1), (2, .int x2)] 178 []
            refine z_aload_n (pc := 178) (k0 := 1) E dX12_takesE_178 rfl rfl ?_
            refine gM_28 (pc := 179) (i := 0) E rfl wd_4_23 dX12_takesE_179 ?_
            refine z_if_ne (pc := 182) (tgt := 187) E dX12_takesE_182 (by decide) (fun c14 => ?_) (fun c14 => ?_)
            · have hf := kB_f hf c14
              refine z_iload_n (pc := 187) (k0 := 0) E dX12_takesE_187 rfl rfl ?_
              refine z_bipush (pc := 188) (v := 41) E dX12_takesE_188 (by decide) ?_
              refine z_icmp_eq (pc := 190) (tgt := 195) E dX12_takesE_190 (by decide) (fun c15 => ?_) (fun c15 => ?_)
              · have hf := kB_t hf c15
                refine z_aload_n (pc := 195) (k0 := 1) E dX12_takesE_195 rfl rfl ?_
                refine z_dup (pc := 196) E dX12_takesE_196 rfl ?_
                refine gM_28 (pc := 197) (i := 0) E rfl wd_4_23 dX12_takesE_197 ?_
                refine z_iconst (pc := 200) (v := 1) E dX12_takesE_200 (by decide) ?_
                obtain ⟨v16, e_v16, hf⟩ := kL_e hf
                refine z_isub (pc := 201) (v := v16) E dX12_takesE_201 e_v16 ?_
                obtain ⟨SM_17, e_SM_17, hf⟩ := kL_e hf
                refine pM_28 (pc := 202) (i := 0) (S1 := SM_17) E rfl e_SM_17 wd_4_23 dX12_takesE_202 ?_
                show zJ p l e rm_X12_takesE s m args below meth c (zQ G ct (some (.int r0)) [wM aM ct OM] A below args s 0 0) A G 4 0 0 [wM aM ct SM_17] [(3, .int r5), (0, .ref (aM 200)), (1, .int x1), (2, .int x2)] 205 []
                refine z_aload_n (pc := 205) (k0 := 1) E dX12_takesE_205 rfl rfl ?_
                refine z_dup (pc := 206) E dX12_takesE_206 rfl ?_
                refine gM_29 (pc := 207) (i := 0) E rfl wd_5_0 dX12_takesE_207 ?_
                refine z_iconst (pc := 210) (v := 1) E dX12_takesE_210 (by decide) ?_
                obtain ⟨v18, e_v18, hf⟩ := kL_e hf
                refine z_isub (pc := 211) (v := v18) E dX12_takesE_211 e_v18 ?_
                obtain ⟨SM_19, e_SM_19, hf⟩ := kL_e hf
                refine pM_29 (pc := 212) (i := 0) (S1 := SM_19) E rfl e_SM_19 wd_5_0 dX12_takesE_212 ?_
                show zJ p l e rm_X12_takesE s m args below meth c (zQ G ct (some (.int r0)) [wM aM ct OM] A below args s 0 0) A G 4 0 0 [wM aM ct SM_19] [(3, .int r5), (0, .ref (aM 200)), (1, .int x1), (2, .int x2)] 215 []
                refine z_aload_n (pc := 215) (k0 := 1) E dX12_takesE_215 rfl rfl ?_
                refine z_dup (pc := 216) E dX12_takesE_216 rfl ?_
                refine gM_17 (pc := 217) (i := 0) E rfl wd_4_12 dX12_takesE_217 ?_
                refine z_iconst (pc := 220) (v := 1) E dX12_takesE_220 (by decide) ?_
                obtain ⟨v20, e_v20, hf⟩ := kL_e hf
                refine z_iadd (pc := 221) (v := v20) E dX12_takesE_221 e_v20 ?_
                obtain ⟨SM_21, e_SM_21, hf⟩ := kL_e hf
                refine pM_17 (pc := 222) (i := 0) (S1 := SM_21) E rfl e_SM_21 wd_4_12 dX12_takesE_222 ?_
                show zJ p l e rm_X12_takesE s m args below meth c (zQ G ct (some (.int r0)) [wM aM ct OM] A below args s 0 0) A G 4 0 0 [wM aM ct SM_21] [(3, .int r5), (0, .ref (aM 200)), (1, .int x1), (2, .int x2)] 225 []
                refine z_aload_n (pc := 225) (k0 := 1) E dX12_takesE_225 rfl rfl ?_
                obtain ⟨SM_22, h23, hf⟩ := kC_e hf
                refine z_callV0 (pc := 226) (is := [0]) (n := 0) (As := []) (st := []) (st' := []) (C2 := [wM aM ct SM_22]) E (c_X12_whole (l := l) (G := G) (ct := ct) (aM := aM) h23) wv_X12_whole wd_28_5 ⟨Nat.le_of_ble_eq_true rfl, Nat.le_of_ble_eq_true rfl, Nat.le_of_ble_eq_true rfl, Nat.le_of_ble_eq_true rfl⟩ rfl rfl rfl (by decide) rfl rfl (zrM (j := 0) rfl) rfl (Nat.le_of_ble_eq_true rfl) dX12_takesE_226 rfl rfl ?_
                refine z_goto (pc := 229) (tgt := 22) E dX12_takesE_229 (by decide) ?_
                refine z_sub [1, 2, 3] (lv' := [(0, .ref (aM 200)), (1, .int x1), (2, .int x2)]) rfl ?_
                exact ih22 SM_22 x1 x2 hf
              · have hf := kB_f hf c15
                refine z_iconst (pc := 193) (v := 0) E dX12_takesE_193 (by decide) ?_
                cases hf
                exact z_zret E hr (by decide) dX12_takesE_194
            · have hf := kB_t hf c14
              refine z_iconst (pc := 185) (v := 1) E dX12_takesE_185 (by decide) ?_
              cases hf
              exact z_zret E hr (by decide) dX12_takesE_186
          · have hf := kB_t hf c9
            refine z_sub [1, 2, 0] (lv' := [(0, .ref (aM 200)), (1, .int x1), (3, .int r5)]) rfl ?_
            exact B122 SM x1 r5 hf
      · have hf := kB_f hf c7
        refine z_iload_n (pc := 31) (k0 := 0) E dX12_takesE_31 rfl rfl ?_
        refine z_bipush (pc := 32) (v := 33) E dX12_takesE_32 (by decide) ?_
        refine z_icmp_eq (pc := 34) (tgt := 43) E dX12_takesE_34 (by decide) (fun c24 => ?_) (fun c24 => ?_)
        · have hf := kB_t hf c24
          refine z_sub [1, 2, 3, 0] (lv' := [(0, .ref (aM 200)), (1, .int x1), (2, .int x2), (3, .int r5)]) rfl ?_
          exact B43 SM x1 x2 r5 hf
        · have hf := kB_f hf c24
          refine z_iload_n (pc := 37) (k0 := 0) E dX12_takesE_37 rfl rfl ?_
          refine z_bipush (pc := 38) (v := 40) E dX12_takesE_38 (by decide) ?_
          refine z_icmp_ne (pc := 40) (tgt := 96) E dX12_takesE_40 (by decide) (fun c25 => ?_) (fun c25 => ?_)
          · have hf := kB_f hf c25
            refine z_aload_n (pc := 96) (k0 := 1) E dX12_takesE_96 rfl rfl ?_
            obtain ⟨r26, SM_27, h28, hf⟩ := kD_e hf
            refine z_callV0 (pc := 97) (is := [0]) (n := 0) (As := []) (st := []) (st' := [.int r26]) (C2 := [wM aM ct SM_27]) E (c_X12_takesTest (l := l) (G := G) (ct := ct) (aM := aM) h28) wv_X12_takesTest wd_27_17 ⟨Nat.le_of_ble_eq_true rfl, Nat.le_of_ble_eq_true rfl, Nat.le_of_ble_eq_true rfl, Nat.le_of_ble_eq_true rfl⟩ rfl rfl rfl (by decide) rfl rfl (zrM (j := 0) rfl) rfl (Nat.le_of_ble_eq_true rfl) dX12_takesE_97 rfl rfl ?_
            refine z_if_eq (pc := 100) (tgt := 108) E dX12_takesE_100 (by decide) (fun c29 => ?_) (fun c29 => ?_)
            · have hf := kB_t hf c29
              refine z_iconst (pc := 108) (v := 0) E dX12_takesE_108 (by decide) ?_
              cases hf
              exact z_zret E hr (by decide) dX12_takesE_109
            · have hf := kB_f hf c29
              refine z_iconst (pc := 103) (v := 0) E dX12_takesE_103 (by decide) ?_
              refine z_istore_n (pc := 104) (lv' := [(2, .int 0), (3, .int r5), (0, .ref (aM 200)), (1, .int x1)]) E dX12_takesE_104 rfl (by decide) rfl ?_
              refine z_goto (pc := 105) (tgt := 22) E dX12_takesE_105 (by decide) ?_
              refine z_sub [2, 3, 0] (lv' := [(0, .ref (aM 200)), (1, .int x1), (2, .int 0)]) rfl ?_
              exact ih22 SM_27 x1 0 hf
          · have hf := kB_t hf c25
            refine z_sub [1, 2, 3, 0] (lv' := [(0, .ref (aM 200)), (1, .int x1), (2, .int x2), (3, .int r5)]) rfl ?_
            exact B43 SM x1 x2 r5 hf
  unfold f_X12_takesE at hf
  refine z_aload_n (pc := 0) (k0 := 0) E dX12_takesE_0 rfl rfl ?_
  refine z_iconst (pc := 1) (v := 0) E dX12_takesE_1 (by decide) ?_
  obtain ⟨SM_1, e_SM_1, hf⟩ := kL_e hf
  refine pM_28 (pc := 2) (i := 0) (S1 := SM_1) E rfl e_SM_1 wd_4_23 dX12_takesE_2 ?_
  show zJ p l e rm_X12_takesE s m args below meth c (zQ G ct (some (.int r0)) [wM aM ct OM] A below args s 0 0) A G 4 0 0 [wM aM ct SM_1] [(0, .ref (aM 200)), (1, .int a1)] 5 []
  refine z_aload_n (pc := 5) (k0 := 0) E dX12_takesE_5 rfl rfl ?_
  refine z_iconst (pc := 6) (v := 0) E dX12_takesE_6 (by decide) ?_
  obtain ⟨SM_2, e_SM_2, hf⟩ := kL_e hf
  refine pM_29 (pc := 7) (i := 0) (S1 := SM_2) E rfl e_SM_2 wd_5_0 dX12_takesE_7 ?_
  show zJ p l e rm_X12_takesE s m args below meth c (zQ G ct (some (.int r0)) [wM aM ct OM] A below args s 0 0) A G 4 0 0 [wM aM ct SM_2] [(0, .ref (aM 200)), (1, .int a1)] 10 []
  refine z_aload_n (pc := 10) (k0 := 0) E dX12_takesE_10 rfl rfl ?_
  refine gM_23 (pc := 11) (i := 0) E rfl wd_4_18 dX12_takesE_11 ?_
  refine z_iload_n (pc := 14) (k0 := 1) E dX12_takesE_14 rfl rfl ?_
  refine z_aload_n (pc := 15) (k0 := 0) E dX12_takesE_15 rfl rfl ?_
  refine gM_27 (pc := 16) (i := 0) E rfl wd_4_22 dX12_takesE_16 ?_
  obtain ⟨c3, hf⟩ := kO_e hf
  obtain ⟨SM_4, e_SM_4, hf⟩ := kL_e hf
  refine sM_23 (pc := 19) (i := 0) (S1 := SM_4) E rfl c3 e_SM_4 dX12_takesE_19 ?_
  show zJ p l e rm_X12_takesE s m args below meth c (zQ G ct (some (.int r0)) [wM aM ct OM] A below args s 0 0) A G 4 0 0 [wM aM ct SM_4] [(0, .ref (aM 200)), (1, .int a1)] 20 []
  refine z_iconst (pc := 20) (v := 1) E dX12_takesE_20 (by decide) ?_
  refine z_istore_n (pc := 21) (lv' := [(2, .int 1), (0, .ref (aM 200)), (1, .int a1)]) E dX12_takesE_21 rfl (by decide) rfl ?_
  refine z_sub [1, 2, 0] (lv' := [(0, .ref (aM 200)), (1, .int a1), (2, .int 1)]) rfl ?_
  exact L22 N SM_4 a1 1 hf
noncomputable def f_X12_takesHead (N : Nat) (SM : zMS) (a1 : Int32) : Option (Int32 × zMS) := kC (f_X12_next SM) (fun r1 => kB (r1 = 99) (kO (¬ (a1 < 0 ∨ 60 ≤ Int32.toNatClampNeg a1)) (kL (mSA SM 21 (upd (SM.2.1 21) (Int32.toNatClampNeg a1) 0)) (fun SM_5 => kD (f_X12_takesWord N SM_5 0 4) (fun r6 SM_7 => kO (r6 = 0 ∨ r6 = 1) (some (r6, SM_7)))))) (kB (r1 = 102) (kO (¬ (a1 < 0 ∨ 60 ≤ Int32.toNatClampNeg a1)) (kL (mSA SM 21 (upd (SM.2.1 21) (Int32.toNatClampNeg a1) 1)) (fun SM_12 => kD (f_X12_takesWord N SM_12 4 4) (fun r13 SM_14 => kO (r13 = 0 ∨ r13 = 1) (some (r13, SM_14)))))) (kB (r1 = 108) (kO (¬ (a1 < 0 ∨ 60 ≤ Int32.toNatClampNeg a1)) (kL (mSA SM 21 (upd (SM.2.1 21) (Int32.toNatClampNeg a1) 2)) (fun SM_19 => kD (f_X12_takesWord N SM_19 8 4) (fun r20 SM_21 => kO (r20 = 0 ∨ r20 = 1) (some (r20, SM_21)))))) (kO (¬ (a1 < 0 ∨ 60 ≤ Int32.toNatClampNeg a1)) (kL (mSA SM 21 (upd (SM.2.1 21) (Int32.toNatClampNeg a1) 3)) (fun SM_25 => kD (f_X12_takesWord N SM_25 12 4) (fun r26 SM_27 => kO (r26 = 0 ∨ r26 = 1) (some (r26, SM_27)))))))))
theorem wv_X12_takesHead : zWV RX12 yX12_takesHead cX12_takesHead 2 (some .boolean) 1 := ⟨wd_26_14, wd_26_15, wd_1_5, wd_26_16, by decide +kernel⟩
def rm_X12_takesHead : Room := { frames := 3, cells := 0, slots := 0, locals := 64 }
set_option maxHeartbeats 4000000 in
set_option maxRecDepth 100000 in
theorem c_X12_takesHead {l : Launch} {G : va_G} {ct : Nat → ClassId} {aM : Nat → Nat} {N : Nat} {SM : zMS} {a1 : Int32} {r0 : Int32} {OM : zMS} (hf : f_X12_takesHead N SM a1 = some (r0, OM)) : zC l yX12_takesHead cX12_takesHead 2 (some .boolean) rm_X12_takesHead G ct [.ref (aM 200), .int a1] [wM aM ct SM] [wM aM ct OM] (some (.int r0)) 0 0 := by
  refine z_enter (own := RX12) (lv := [(0, .ref (aM 200)), (1, .int a1)]) (by decide) rfl (Nat.le_of_ble_eq_true rfl) rfl ?_
  intro p e s m args below meth c A E hr hnm
  unfold f_X12_takesHead at hf
  refine z_aload_n (pc := 0) (k0 := 0) E dX12_takesHead_0 rfl rfl ?_
  obtain ⟨r1, h2, hf⟩ := kC_e hf
  refine z_callV0 (pc := 1) (is := [0]) (n := 0) (As := []) (st := []) (st' := [.int r1]) (C2 := [wM aM ct SM]) E (c_X12_next (l := l) (G := G) (ct := ct) (aM := aM) h2) wv_X12_next wd_26_17 ⟨Nat.le_of_ble_eq_true rfl, Nat.le_of_ble_eq_true rfl, Nat.le_of_ble_eq_true rfl, Nat.le_of_ble_eq_true rfl⟩ rfl rfl rfl (by decide) rfl rfl (zrM (j := 0) rfl) rfl (Nat.le_of_ble_eq_true rfl) dX12_takesHead_1 rfl rfl ?_
  by_cases c3 : r1 = 99
  · have hf := kB_t hf c3
    refine z_lsw (pc := 4) (tgt := 40) (off := 36) E dX12_takesHead_4 (by decide) (by rw [c3]; rfl) (by decide) ?_
    refine z_aload_n (pc := 40) (k0 := 0) E dX12_takesHead_40 rfl rfl ?_
    refine gM_21 (pc := 41) (i := 0) E rfl wd_4_16 dX12_takesHead_41 ?_
    refine z_iload_n (pc := 44) (k0 := 1) E dX12_takesHead_44 rfl rfl ?_
    refine z_iconst (pc := 45) (v := 0) E dX12_takesHead_45 (by decide) ?_
    obtain ⟨c4, hf⟩ := kO_e hf
    obtain ⟨SM_5, e_SM_5, hf⟩ := kL_e hf
    refine sM_21 (pc := 46) (i := 0) (S1 := SM_5) E rfl c4 e_SM_5 dX12_takesHead_46 ?_
    show zJ p l e rm_X12_takesHead s m args below meth c (zQ G ct (some (.int r0)) [wM aM ct OM] A below args s 0 0) A G 2 0 0 [wM aM ct SM_5] [(0, .ref (aM 200)), (1, .int a1)] 47 []
    refine z_aload_n (pc := 47) (k0 := 0) E dX12_takesHead_47 rfl rfl ?_
    refine z_iconst (pc := 48) (v := 0) E dX12_takesHead_48 (by decide) ?_
    refine z_iconst (pc := 49) (v := 4) E dX12_takesHead_49 (by decide) ?_
    obtain ⟨r6, SM_7, h8, hf⟩ := kD_e hf
    refine z_callV0 (pc := 50) (is := [0]) (n := 2) (As := [.int 0, .int 4]) (st := []) (st' := [.int r6]) (C2 := [wM aM ct SM_7]) E (c_X12_takesWord (l := l) (G := G) (ct := ct) (aM := aM) h8) wv_X12_takesWord wd_26_21 ⟨Nat.le_of_ble_eq_true rfl, Nat.le_of_ble_eq_true rfl, Nat.le_of_ble_eq_true rfl, Nat.le_of_ble_eq_true rfl⟩ rfl rfl rfl (by decide) rfl rfl (zrM (j := 0) rfl) rfl (Nat.le_of_ble_eq_true rfl) dX12_takesHead_50 rfl rfl ?_
    obtain ⟨c9, hf⟩ := kO_e hf
    cases hf
    exact z_zret E hr c9 dX12_takesHead_53
  have hf := kB_f hf c3
  by_cases c10 : r1 = 102
  · have hf := kB_t hf c10
    refine z_lsw (pc := 4) (tgt := 54) (off := 50) E dX12_takesHead_4 (by decide) (by rw [c10]; rfl) (by decide) ?_
    refine z_aload_n (pc := 54) (k0 := 0) E dX12_takesHead_54 rfl rfl ?_
    refine gM_21 (pc := 55) (i := 0) E rfl wd_4_16 dX12_takesHead_55 ?_
    refine z_iload_n (pc := 58) (k0 := 1) E dX12_takesHead_58 rfl rfl ?_
    refine z_iconst (pc := 59) (v := 1) E dX12_takesHead_59 (by decide) ?_
    obtain ⟨c11, hf⟩ := kO_e hf
    obtain ⟨SM_12, e_SM_12, hf⟩ := kL_e hf
    refine sM_21 (pc := 60) (i := 0) (S1 := SM_12) E rfl c11 e_SM_12 dX12_takesHead_60 ?_
    show zJ p l e rm_X12_takesHead s m args below meth c (zQ G ct (some (.int r0)) [wM aM ct OM] A below args s 0 0) A G 2 0 0 [wM aM ct SM_12] [(0, .ref (aM 200)), (1, .int a1)] 61 []
    refine z_aload_n (pc := 61) (k0 := 0) E dX12_takesHead_61 rfl rfl ?_
    refine z_iconst (pc := 62) (v := 4) E dX12_takesHead_62 (by decide) ?_
    refine z_iconst (pc := 63) (v := 4) E dX12_takesHead_63 (by decide) ?_
    obtain ⟨r13, SM_14, h15, hf⟩ := kD_e hf
    refine z_callV0 (pc := 64) (is := [0]) (n := 2) (As := [.int 4, .int 4]) (st := []) (st' := [.int r13]) (C2 := [wM aM ct SM_14]) E (c_X12_takesWord (l := l) (G := G) (ct := ct) (aM := aM) h15) wv_X12_takesWord wd_26_21 ⟨Nat.le_of_ble_eq_true rfl, Nat.le_of_ble_eq_true rfl, Nat.le_of_ble_eq_true rfl, Nat.le_of_ble_eq_true rfl⟩ rfl rfl rfl (by decide) rfl rfl (zrM (j := 0) rfl) rfl (Nat.le_of_ble_eq_true rfl) dX12_takesHead_64 rfl rfl ?_
    obtain ⟨c16, hf⟩ := kO_e hf
    cases hf
    exact z_zret E hr c16 dX12_takesHead_67
  have hf := kB_f hf c10
  by_cases c17 : r1 = 108
  · have hf := kB_t hf c17
    refine z_lsw (pc := 4) (tgt := 68) (off := 64) E dX12_takesHead_4 (by decide) (by rw [c17]; rfl) (by decide) ?_
    refine z_aload_n (pc := 68) (k0 := 0) E dX12_takesHead_68 rfl rfl ?_
    refine gM_21 (pc := 69) (i := 0) E rfl wd_4_16 dX12_takesHead_69 ?_
    refine z_iload_n (pc := 72) (k0 := 1) E dX12_takesHead_72 rfl rfl ?_
    refine z_iconst (pc := 73) (v := 2) E dX12_takesHead_73 (by decide) ?_
    obtain ⟨c18, hf⟩ := kO_e hf
    obtain ⟨SM_19, e_SM_19, hf⟩ := kL_e hf
    refine sM_21 (pc := 74) (i := 0) (S1 := SM_19) E rfl c18 e_SM_19 dX12_takesHead_74 ?_
    show zJ p l e rm_X12_takesHead s m args below meth c (zQ G ct (some (.int r0)) [wM aM ct OM] A below args s 0 0) A G 2 0 0 [wM aM ct SM_19] [(0, .ref (aM 200)), (1, .int a1)] 75 []
    refine z_aload_n (pc := 75) (k0 := 0) E dX12_takesHead_75 rfl rfl ?_
    refine z_bipush (pc := 76) (v := 8) E dX12_takesHead_76 (by decide) ?_
    refine z_iconst (pc := 78) (v := 4) E dX12_takesHead_78 (by decide) ?_
    obtain ⟨r20, SM_21, h22, hf⟩ := kD_e hf
    refine z_callV0 (pc := 79) (is := [0]) (n := 2) (As := [.int 8, .int 4]) (st := []) (st' := [.int r20]) (C2 := [wM aM ct SM_21]) E (c_X12_takesWord (l := l) (G := G) (ct := ct) (aM := aM) h22) wv_X12_takesWord wd_26_21 ⟨Nat.le_of_ble_eq_true rfl, Nat.le_of_ble_eq_true rfl, Nat.le_of_ble_eq_true rfl, Nat.le_of_ble_eq_true rfl⟩ rfl rfl rfl (by decide) rfl rfl (zrM (j := 0) rfl) rfl (Nat.le_of_ble_eq_true rfl) dX12_takesHead_79 rfl rfl ?_
    obtain ⟨c23, hf⟩ := kO_e hf
    cases hf
    exact z_zret E hr c23 dX12_takesHead_82
  have hf := kB_f hf c17
  refine z_lsw (pc := 4) (tgt := 83) (off := 79) E dX12_takesHead_4 (by decide) ((lv_osw c3 (by decide)).trans ((lv_osw c10 (by decide)).trans ((lv_osw c17 (by decide)).trans rfl))) (by decide) ?_
  refine z_aload_n (pc := 83) (k0 := 0) E dX12_takesHead_83 rfl rfl ?_
  refine gM_21 (pc := 84) (i := 0) E rfl wd_4_16 dX12_takesHead_84 ?_
  refine z_iload_n (pc := 87) (k0 := 1) E dX12_takesHead_87 rfl rfl ?_
  refine z_iconst (pc := 88) (v := 3) E dX12_takesHead_88 (by decide) ?_
  obtain ⟨c24, hf⟩ := kO_e hf
  obtain ⟨SM_25, e_SM_25, hf⟩ := kL_e hf
  refine sM_21 (pc := 89) (i := 0) (S1 := SM_25) E rfl c24 e_SM_25 dX12_takesHead_89 ?_
  show zJ p l e rm_X12_takesHead s m args below meth c (zQ G ct (some (.int r0)) [wM aM ct OM] A below args s 0 0) A G 2 0 0 [wM aM ct SM_25] [(0, .ref (aM 200)), (1, .int a1)] 90 []
  refine z_aload_n (pc := 90) (k0 := 0) E dX12_takesHead_90 rfl rfl ?_
  refine z_bipush (pc := 91) (v := 12) E dX12_takesHead_91 (by decide) ?_
  refine z_iconst (pc := 93) (v := 4) E dX12_takesHead_93 (by decide) ?_
  obtain ⟨r26, SM_27, h28, hf⟩ := kD_e hf
  refine z_callV0 (pc := 94) (is := [0]) (n := 2) (As := [.int 12, .int 4]) (st := []) (st' := [.int r26]) (C2 := [wM aM ct SM_27]) E (c_X12_takesWord (l := l) (G := G) (ct := ct) (aM := aM) h28) wv_X12_takesWord wd_26_21 ⟨Nat.le_of_ble_eq_true rfl, Nat.le_of_ble_eq_true rfl, Nat.le_of_ble_eq_true rfl, Nat.le_of_ble_eq_true rfl⟩ rfl rfl rfl (by decide) rfl rfl (zrM (j := 0) rfl) rfl (Nat.le_of_ble_eq_true rfl) dX12_takesHead_94 rfl rfl ?_
  obtain ⟨c29, hf⟩ := kO_e hf
  cases hf
  exact z_zret E hr c29 dX12_takesHead_97
noncomputable def f_X12_takesClause (N : Nat) (SM : zMS) (a1 : Int32) : Option (Int32 × zMS) := kD (f_X12_takesHead N SM a1) (fun r1 SM_2 => kB (r1 = 0) (some (0, SM_2)) (kD (f_X12_takesNumber N SM_2) (fun r5 SM_6 => kB (r5 = 0) (some (0, SM_6)) (kO (¬ (a1 < 0 ∨ 60 ≤ Int32.toNatClampNeg a1)) (kL (mSA SM_6 22 (upd (SM_6.2.1 22) (Int32.toNatClampNeg a1) (SM_6.1 18))) (fun SM_10 => kO (¬ (a1 < 0 ∨ 60 ≤ Int32.toNatClampNeg a1)) (kB (2 ≤ (SM_10.2.1 21 (Int32.toNatClampNeg a1))) (some (1, SM_10)) (kD (f_X12_takes SM_10 32) (fun r13 SM_14 => kB (r13 = 0) (some (0, SM_14)) (kD (f_X12_takesE N SM_14 a1) (fun r17 SM_18 => kB (r17 = 0) (some (0, SM_18)) (some (1, SM_18)))))))))))))
theorem wv_X12_takesClause : zWV RX12 yX12_takesClause cX12_takesClause 2 (some .boolean) 1 := ⟨wd_26_10, wd_26_11, wd_1_5, wd_26_12, by decide +kernel⟩
def rm_X12_takesClause : Room := { frames := 5, cells := 0, slots := 0, locals := 109 }
set_option maxHeartbeats 4000000 in
set_option maxRecDepth 100000 in
theorem c_X12_takesClause {l : Launch} {G : va_G} {ct : Nat → ClassId} {aM : Nat → Nat} {N : Nat} {SM : zMS} {a1 : Int32} {r0 : Int32} {OM : zMS} (hf : f_X12_takesClause N SM a1 = some (r0, OM)) : zC l yX12_takesClause cX12_takesClause 2 (some .boolean) rm_X12_takesClause G ct [.ref (aM 200), .int a1] [wM aM ct SM] [wM aM ct OM] (some (.int r0)) 0 0 := by
  refine z_enter (own := RX12) (lv := [(0, .ref (aM 200)), (1, .int a1)]) (by decide) rfl (Nat.le_of_ble_eq_true rfl) rfl ?_
  intro p e s m args below meth c A E hr hnm
  unfold f_X12_takesClause at hf
  refine z_aload_n (pc := 0) (k0 := 0) E dX12_takesClause_0 rfl rfl ?_
  refine z_iload_n (pc := 1) (k0 := 1) E dX12_takesClause_1 rfl rfl ?_
  obtain ⟨r1, SM_2, h3, hf⟩ := kD_e hf
  refine z_callV0 (pc := 2) (is := [0]) (n := 1) (As := [.int a1]) (st := []) (st' := [.int r1]) (C2 := [wM aM ct SM_2]) E (c_X12_takesHead (l := l) (G := G) (ct := ct) (aM := aM) h3) wv_X12_takesHead wd_26_13 ⟨Nat.le_of_ble_eq_true rfl, Nat.le_of_ble_eq_true rfl, Nat.le_of_ble_eq_true rfl, Nat.le_of_ble_eq_true rfl⟩ rfl rfl rfl (by decide) rfl rfl (zrM (j := 0) rfl) rfl (Nat.le_of_ble_eq_true rfl) dX12_takesClause_2 rfl rfl ?_
  refine z_if_eq (pc := 5) (tgt := 15) E dX12_takesClause_5 (by decide) (fun c4 => ?_) (fun c4 => ?_)
  · have hf := kB_t hf c4
    refine z_iconst (pc := 15) (v := 0) E dX12_takesClause_15 (by decide) ?_
    cases hf
    exact z_zret E hr (by decide) dX12_takesClause_16
  · have hf := kB_f hf c4
    refine z_aload_n (pc := 8) (k0 := 0) E dX12_takesClause_8 rfl rfl ?_
    obtain ⟨r5, SM_6, h7, hf⟩ := kD_e hf
    refine z_callV0 (pc := 9) (is := [0]) (n := 0) (As := []) (st := []) (st' := [.int r5]) (C2 := [wM aM ct SM_6]) E (c_X12_takesNumber (l := l) (G := G) (ct := ct) (aM := aM) h7) wv_X12_takesNumber wd_27_5 ⟨Nat.le_of_ble_eq_true rfl, Nat.le_of_ble_eq_true rfl, Nat.le_of_ble_eq_true rfl, Nat.le_of_ble_eq_true rfl⟩ rfl rfl rfl (by decide) rfl rfl (zrM (j := 0) rfl) rfl (Nat.le_of_ble_eq_true rfl) dX12_takesClause_9 rfl rfl ?_
    refine z_if_ne (pc := 12) (tgt := 17) E dX12_takesClause_12 (by decide) (fun c8 => ?_) (fun c8 => ?_)
    · have hf := kB_f hf c8
      refine z_aload_n (pc := 17) (k0 := 0) E dX12_takesClause_17 rfl rfl ?_
      refine gM_22 (pc := 18) (i := 0) E rfl wd_4_17 dX12_takesClause_18 ?_
      refine z_iload_n (pc := 21) (k0 := 1) E dX12_takesClause_21 rfl rfl ?_
      refine z_aload_n (pc := 22) (k0 := 0) E dX12_takesClause_22 rfl rfl ?_
      refine gM_18 (pc := 23) (i := 0) E rfl wd_4_13 dX12_takesClause_23 ?_
      obtain ⟨c9, hf⟩ := kO_e hf
      obtain ⟨SM_10, e_SM_10, hf⟩ := kL_e hf
      refine sM_22 (pc := 26) (i := 0) (S1 := SM_10) E rfl c9 e_SM_10 dX12_takesClause_26 ?_
      show zJ p l e rm_X12_takesClause s m args below meth c (zQ G ct (some (.int r0)) [wM aM ct OM] A below args s 0 0) A G 2 0 0 [wM aM ct SM_10] [(0, .ref (aM 200)), (1, .int a1)] 27 []
      refine z_aload_n (pc := 27) (k0 := 0) E dX12_takesClause_27 rfl rfl ?_
      refine gM_21 (pc := 28) (i := 0) E rfl wd_4_16 dX12_takesClause_28 ?_
      refine z_iload_n (pc := 31) (k0 := 1) E dX12_takesClause_31 rfl rfl ?_
      obtain ⟨c11, hf⟩ := kO_e hf
      refine lM_21 (pc := 32) (i := 0) E rfl c11 dX12_takesClause_32 ?_
      refine z_iconst (pc := 33) (v := 2) E dX12_takesClause_33 (by decide) ?_
      refine z_icmp_ge (pc := 34) (tgt := 54) E dX12_takesClause_34 (by decide) (fun c12 => ?_) (fun c12 => ?_)
      · have hf := kB_t hf c12
        refine z_iconst (pc := 54) (v := 1) E dX12_takesClause_54 (by decide) ?_
        refine z_goto (pc := 55) (tgt := 59) E dX12_takesClause_55 (by decide) ?_
        cases hf
        exact z_zret E hr (by decide) dX12_takesClause_59
      · have hf := kB_f hf c12
        refine z_aload_n (pc := 37) (k0 := 0) E dX12_takesClause_37 rfl rfl ?_
        refine z_bipush (pc := 38) (v := 32) E dX12_takesClause_38 (by decide) ?_
        obtain ⟨r13, SM_14, h15, hf⟩ := kD_e hf
        refine z_callV0 (pc := 40) (is := [0]) (n := 1) (As := [.int 32]) (st := []) (st' := [.int r13]) (C2 := [wM aM ct SM_14]) E (c_X12_takes (l := l) (G := G) (ct := ct) (aM := aM) h15) wv_X12_takes wd_27_1 ⟨Nat.le_of_ble_eq_true rfl, Nat.le_of_ble_eq_true rfl, Nat.le_of_ble_eq_true rfl, Nat.le_of_ble_eq_true rfl⟩ rfl rfl rfl (by decide) rfl rfl (zrM (j := 0) rfl) rfl (Nat.le_of_ble_eq_true rfl) dX12_takesClause_40 rfl rfl ?_
        refine z_if_eq (pc := 43) (tgt := 58) E dX12_takesClause_43 (by decide) (fun c16 => ?_) (fun c16 => ?_)
        · have hf := kB_t hf c16
          refine z_iconst (pc := 58) (v := 0) E dX12_takesClause_58 (by decide) ?_
          cases hf
          exact z_zret E hr (by decide) dX12_takesClause_59
        · have hf := kB_f hf c16
          refine z_aload_n (pc := 46) (k0 := 0) E dX12_takesClause_46 rfl rfl ?_
          refine z_iload_n (pc := 47) (k0 := 1) E dX12_takesClause_47 rfl rfl ?_
          obtain ⟨r17, SM_18, h19, hf⟩ := kD_e hf
          refine z_callV0 (pc := 48) (is := [0]) (n := 1) (As := [.int a1]) (st := []) (st' := [.int r17]) (C2 := [wM aM ct SM_18]) E (c_X12_takesE (l := l) (G := G) (ct := ct) (aM := aM) h19) wv_X12_takesE wd_27_13 ⟨Nat.le_of_ble_eq_true rfl, Nat.le_of_ble_eq_true rfl, Nat.le_of_ble_eq_true rfl, Nat.le_of_ble_eq_true rfl⟩ rfl rfl rfl (by decide) rfl rfl (zrM (j := 0) rfl) rfl (Nat.le_of_ble_eq_true rfl) dX12_takesClause_48 rfl rfl ?_
          refine z_if_eq (pc := 51) (tgt := 58) E dX12_takesClause_51 (by decide) (fun c20 => ?_) (fun c20 => ?_)
          · have hf := kB_t hf c20
            refine z_iconst (pc := 58) (v := 0) E dX12_takesClause_58 (by decide) ?_
            cases hf
            exact z_zret E hr (by decide) dX12_takesClause_59
          · have hf := kB_f hf c20
            refine z_iconst (pc := 54) (v := 1) E dX12_takesClause_54 (by decide) ?_
            refine z_goto (pc := 55) (tgt := 59) E dX12_takesClause_55 (by decide) ?_
            cases hf
            exact z_zret E hr (by decide) dX12_takesClause_59
    · have hf := kB_t hf c8
      refine z_iconst (pc := 15) (v := 0) E dX12_takesClause_15 (by decide) ?_
      cases hf
      exact z_zret E hr (by decide) dX12_takesClause_16
