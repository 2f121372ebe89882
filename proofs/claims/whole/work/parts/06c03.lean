noncomputable def f_X10_skip_b71 (N : Nat) (SH : zHS) (ST : zTS) : Option zTS := kB ((ST.1 3) < (ST.1 2)) (some (ST)) (kL (tSI ST 3 0) (fun ST_15 => some (ST_15)))
noncomputable def f_X10_skip_l25 (N : Nat) (SH : zHS) : Nat → zTS → Int32 → Int32 → Option zTS := fun n => Nat.rec (motive := fun _ => zTS → Int32 → Int32 → Option zTS) (fun _ _ _ => none) (fun _ ih ST x1 x2 => kB ((ST.1 2) ≤ x2) (kB ((ST.1 3) ≤ x1) (f_X10_skip_b71 N SH ST) (kL ((ST.1 3) - 1) (fun v7 => kL (tSI ST 3 v7) (fun ST_8 => f_X10_skip_b71 N SH ST_8)))) (kL (x2 + 1) (fun v9 => kO (¬ (v9 < 0 ∨ 7 ≤ Int32.toNatClampNeg v9)) (kO (¬ (x2 < 0 ∨ 7 ≤ Int32.toNatClampNeg x2)) (kL (tSA ST (upd (ST.2) (Int32.toNatClampNeg x2) (ST.2 (Int32.toNatClampNeg v9)))) (fun ST_12 => kL (x2 + 1) (fun v13 => ih ST_12 x1 v13))))))) n
theorem f_X10_skip_l25_z (N : Nat) (SH : zHS) (ST : zTS) (x1 : Int32) (x2 : Int32) : f_X10_skip_l25 N SH 0 ST x1 x2 = none := rfl
theorem f_X10_skip_l25_s (N : Nat) (SH : zHS) (n : Nat) (ST : zTS) (x1 : Int32) (x2 : Int32) : f_X10_skip_l25 N SH (n + 1) ST x1 x2 = kB ((ST.1 2) ≤ x2) (kB ((ST.1 3) ≤ x1) (f_X10_skip_b71 N SH ST) (kL ((ST.1 3) - 1) (fun v7 => kL (tSI ST 3 v7) (fun ST_8 => f_X10_skip_b71 N SH ST_8)))) (kL (x2 + 1) (fun v9 => kO (¬ (v9 < 0 ∨ 7 ≤ Int32.toNatClampNeg v9)) (kO (¬ (x2 < 0 ∨ 7 ≤ Int32.toNatClampNeg x2)) (kL (tSA ST (upd (ST.2) (Int32.toNatClampNeg x2) (ST.2 (Int32.toNatClampNeg v9)))) (fun ST_12 => kL (x2 + 1) (fun v13 => (f_X10_skip_l25 N SH n) ST_12 x1 v13)))))) := rfl
noncomputable def f_X10_skip (N : Nat) (ST : zTS) (SH : zHS) (a1 : Int32) : Option zTS := kB (a1 < 0) (some (ST)) (kB (a1 < (ST.1 2)) (kL ((ST.1 2) - 1) (fun v3 => kL (tSI ST 2 v3) (fun ST_4 => f_X10_skip_l25 N SH N ST_4 a1 a1))) (some (ST)))
theorem wv_X10_skip : zWV RX10 yX10_skip cX10_skip 3 none 1 := ⟨wd_36_11, wd_36_12, wd_1_20, wd_36_13, by decide +kernel⟩
def rm_X10_skip : Room := { frames := 0, cells := 0, slots := 0, locals := 0 }
set_option maxHeartbeats 4000000 in
set_option maxRecDepth 100000 in
theorem c_X10_skip {l : Launch} {G : va_G} {ct : Nat → ClassId} {aT : Nat → Nat} {aH : Nat → Nat} {N : Nat} {ST : zTS} {SH : zHS} {a1 : Int32} {OT : zTS} (hf : f_X10_skip N ST SH a1 = some OT) : zC l yX10_skip cX10_skip 3 none rm_X10_skip G ct [.ref (aT 200), .int a1] [wT aT (aH 200) ct ST, wH aH ct SH] [wT aT (aH 200) ct OT, wH aH ct SH] none 0 0 := by
  refine z_enter (own := RX10) (lv := [(0, .ref (aT 200)), (1, .int a1)]) (by decide) rfl (Nat.le_of_ble_eq_true rfl) rfl ?_
  intro p e s m args below meth c A E hr hnm
  have B71 : ∀ (ST : zTS), f_X10_skip_b71 N SH ST = some OT → zJ p l e rm_X10_skip s m args below meth c (zQ G ct none [wT aT (aH 200) ct OT, wH aH ct SH] A below args s 0 0) A G 3 0 0 [wT aT (aH 200) ct ST, wH aH ct SH] [(0, .ref (aT 200))] 71 [] := by
    intro ST hf
    unfold f_X10_skip_b71 at hf
    refine z_aload_n (pc := 71) (k0 := 0) E dX10_skip_71 rfl rfl ?_
    refine gT_3 (pc := 72) (i := 0) E rfl wd_32_20 dX10_skip_72 ?_
    refine z_aload_n (pc := 75) (k0 := 0) E dX10_skip_75 rfl rfl ?_
    refine gT_2 (pc := 76) (i := 0) E rfl wd_32_18 dX10_skip_76 ?_
    refine z_icmp_lt (pc := 79) (tgt := 87) E dX10_skip_79 (by decide) (fun c14 => ?_) (fun c14 => ?_)
    · have hf := kB_t hf c14
      cases hf
      exact z_vret E hr dX10_skip_87
    · have hf := kB_f hf c14
      refine z_aload_n (pc := 82) (k0 := 0) E dX10_skip_82 rfl rfl ?_
      refine z_iconst (pc := 83) (v := 0) E dX10_skip_83 (by decide) ?_
      obtain ⟨ST_15, e_ST_15, hf⟩ := kL_e hf
      refine pT_3 (pc := 84) (i := 0) (S1 := ST_15) E rfl e_ST_15 wd_32_20 dX10_skip_84 ?_
      show zJ p l e rm_X10_skip s m args below meth c (zQ G ct none [wT aT (aH 200) ct OT, wH aH ct SH] A below args s 0 0) A G 3 0 0 [wT aT (aH 200) ct ST_15, wH aH ct SH] [(0, .ref (aT 200))] 87 []
      cases hf
      exact z_vret E hr dX10_skip_87
  have L25 : ∀ (n25 : Nat) (ST : zTS) (x1 : Int32) (x2 : Int32), f_X10_skip_l25 N SH n25 ST x1 x2 = some OT → zJ p l e rm_X10_skip s m args below meth c (zQ G ct none [wT aT (aH 200) ct OT, wH aH ct SH] A below args s 0 0) A G 3 0 0 [wT aT (aH 200) ct ST, wH aH ct SH] [(0, .ref (aT 200)), (1, .int x1), (2, .int x2)] 25 [] := by
    intro n25
    induction n25 with
    | zero =>
      intro ST x1 x2 hf
      rw [f_X10_skip_l25_z] at hf
      cases hf
    | succ n25 ih25 =>
      intro ST x1 x2 hf
      rw [f_X10_skip_l25_s] at hf
      refine z_iload_n (pc := 25) (k0 := 2) E dX10_skip_25 rfl rfl ?_
      refine z_aload_n (pc := 26) (k0 := 0) E dX10_skip_26 rfl rfl ?_
      refine gT_2 (pc := 27) (i := 0) E rfl wd_32_18 dX10_skip_27 ?_
      refine z_icmp_ge (pc := 30) (tgt := 53) E dX10_skip_30 (by decide) (fun c5 => ?_) (fun c5 => ?_)
      · have hf := kB_t hf c5
        refine z_aload_n (pc := 53) (k0 := 0) E dX10_skip_53 rfl rfl ?_
        refine gT_3 (pc := 54) (i := 0) E rfl wd_32_20 dX10_skip_54 ?_
        refine z_iload_n (pc := 57) (k0 := 1) E dX10_skip_57 rfl rfl ?_
        refine z_icmp_le (pc := 58) (tgt := 71) E dX10_skip_58 (by decide) (fun c6 => ?_) (fun c6 => ?_)
        · have hf := kB_t hf c6
          refine z_sub [0] (lv' := [(0, .ref (aT 200))]) rfl ?_
          exact B71 ST hf
        · have hf := kB_f hf c6
          refine z_aload_n (pc := 61) (k0 := 0) E dX10_skip_61 rfl rfl ?_
          refine z_dup (pc := 62) E dX10_skip_62 rfl ?_
          refine gT_3 (pc := 63) (i := 0) E rfl wd_32_20 dX10_skip_63 ?_
          refine z_iconst (pc := 66) (v := 1) E dX10_skip_66 (by decide) ?_
          obtain ⟨v7, e_v7, hf⟩ := kL_e hf
          refine z_isub (pc := 67) (v := v7) E dX10_skip_67 e_v7 ?_
          obtain ⟨ST_8, e_ST_8, hf⟩ := kL_e hf
          refine pT_3 (pc := 68) (i := 0) (S1 := ST_8) E rfl e_ST_8 wd_32_20 dX10_skip_68 ?_
          show zJ p l e rm_X10_skip s m args below meth c (zQ G ct none [wT aT (aH 200) ct OT, wH aH ct SH] A below args s 0 0) A G 3 0 0 [wT aT (aH 200) ct ST_8, wH aH ct SH] [(0, .ref (aT 200)), (1, .int x1), (2, .int x2)] 71 []
          refine z_sub [0] (lv' := [(0, .ref (aT 200))]) rfl ?_
          exact B71 ST_8 hf
      · have hf := kB_f hf c5
        refine z_aload_n (pc := 33) (k0 := 0) E dX10_skip_33 rfl rfl ?_
        refine gT_1 (pc := 34) (i := 0) E rfl wd_3_6 dX10_skip_34 ?_
        refine z_iload_n (pc := 37) (k0 := 2) E dX10_skip_37 rfl rfl ?_
        refine z_aload_n (pc := 38) (k0 := 0) E dX10_skip_38 rfl rfl ?_
        refine gT_1 (pc := 39) (i := 0) E rfl wd_3_6 dX10_skip_39 ?_
        refine z_iload_n (pc := 42) (k0 := 2) E dX10_skip_42 rfl rfl ?_
        refine z_iconst (pc := 43) (v := 1) E dX10_skip_43 (by decide) ?_
        obtain ⟨v9, e_v9, hf⟩ := kL_e hf
        refine z_iadd (pc := 44) (v := v9) E dX10_skip_44 e_v9 ?_
        obtain ⟨c10, hf⟩ := kO_e hf
        refine lT_1 (pc := 45) (i := 0) E rfl c10 dX10_skip_45 ?_
        obtain ⟨c11, hf⟩ := kO_e hf
        obtain ⟨ST_12, e_ST_12, hf⟩ := kL_e hf
        refine sT_1 (pc := 46) (i := 0) (S1 := ST_12) E rfl c11 e_ST_12 dX10_skip_46 ?_
        show zJ p l e rm_X10_skip s m args below meth c (zQ G ct none [wT aT (aH 200) ct OT, wH aH ct SH] A below args s 0 0) A G 3 0 0 [wT aT (aH 200) ct ST_12, wH aH ct SH] [(0, .ref (aT 200)), (1, .int x1), (2, .int x2)] 47 []
        obtain ⟨v13, e_v13, hf⟩ := kL_e hf
        refine z_iinc (pc := 47) (k0 := 2) (v := v13) (lv' := [(2, .int v13), (0, .ref (aT 200)), (1, .int x1)]) E dX10_skip_47 rfl e_v13 (by decide) rfl ?_
        refine z_goto (pc := 50) (tgt := 25) E dX10_skip_50 (by decide) ?_
        refine z_sub [1, 2, 0] (lv' := [(0, .ref (aT 200)), (1, .int x1), (2, .int v13)]) rfl ?_
        exact ih25 ST_12 x1 v13 hf
  unfold f_X10_skip at hf
  refine z_iload_n (pc := 0) (k0 := 1) E dX10_skip_0 rfl rfl ?_
  refine z_if_lt (pc := 1) (tgt := 12) E dX10_skip_1 (by decide) (fun c1 => ?_) (fun c1 => ?_)
  · have hf := kB_t hf c1
    cases hf
    exact z_vret E hr dX10_skip_12
  · have hf := kB_f hf c1
    refine z_iload_n (pc := 4) (k0 := 1) E dX10_skip_4 rfl rfl ?_
    refine z_aload_n (pc := 5) (k0 := 0) E dX10_skip_5 rfl rfl ?_
    refine gT_2 (pc := 6) (i := 0) E rfl wd_32_18 dX10_skip_6 ?_
    refine z_icmp_lt (pc := 9) (tgt := 13) E dX10_skip_9 (by decide) (fun c2 => ?_) (fun c2 => ?_)
    · have hf := kB_t hf c2
      refine z_aload_n (pc := 13) (k0 := 0) E dX10_skip_13 rfl rfl ?_
      refine z_dup (pc := 14) E dX10_skip_14 rfl ?_
      refine gT_2 (pc := 15) (i := 0) E rfl wd_32_18 dX10_skip_15 ?_
      refine z_iconst (pc := 18) (v := 1) E dX10_skip_18 (by decide) ?_
      obtain ⟨v3, e_v3, hf⟩ := kL_e hf
      refine z_isub (pc := 19) (v := v3) E dX10_skip_19 e_v3 ?_
      obtain ⟨ST_4, e_ST_4, hf⟩ := kL_e hf
      refine pT_2 (pc := 20) (i := 0) (S1 := ST_4) E rfl e_ST_4 wd_32_18 dX10_skip_20 ?_
      show zJ p l e rm_X10_skip s m args below meth c (zQ G ct none [wT aT (aH 200) ct OT, wH aH ct SH] A below args s 0 0) A G 3 0 0 [wT aT (aH 200) ct ST_4, wH aH ct SH] [(0, .ref (aT 200)), (1, .int a1)] 23 []
      refine z_iload_n (pc := 23) (k0 := 1) E dX10_skip_23 rfl rfl ?_
      refine z_istore_n (pc := 24) (lv' := [(2, .int a1), (0, .ref (aT 200)), (1, .int a1)]) E dX10_skip_24 rfl (by decide) rfl ?_
      refine z_sub [1, 2, 0] (lv' := [(0, .ref (aT 200)), (1, .int a1), (2, .int a1)]) rfl ?_
      exact L25 N ST_4 a1 a1 hf
    · have hf := kB_f hf c2
      cases hf
      exact z_vret E hr dX10_skip_12
noncomputable def f_X10_afresh_b31 (N : Nat) (SA : (Nat → Int32)) (ST : zTS) (SH : zHS) : Option (zTS × zHS) := kL (tSI ST 3 0) (fun ST_7 => kL (hSI SH 11 0) (fun SH_8 => kL (hSI SH_8 12 0) (fun SH_9 => kL (hSI SH_9 13 0) (fun SH_10 => kL (hSI SH_10 14 0) (fun SH_11 => some (ST_7, SH_11))))))
noncomputable def f_X10_afresh_l2 (N : Nat) (SA : (Nat → Int32)) : Nat → zTS → zHS → Int32 → Option (zTS × zHS) := fun n => Nat.rec (motive := fun _ => zTS → zHS → Int32 → Option (zTS × zHS)) (fun _ _ _ => none) (fun _ ih ST SH x2 => kB ((ST.1 2) ≤ x2) (f_X10_afresh_b31 N SA ST SH) (kB ((Int32.ofNat 5) ≤ x2) (f_X10_afresh_b31 N SA ST SH) (kO (¬ (x2 < 0 ∨ 5 ≤ Int32.toNatClampNeg x2)) (kO (¬ (x2 < 0 ∨ 7 ≤ Int32.toNatClampNeg x2)) (kL (tSA ST (upd (ST.2) (Int32.toNatClampNeg x2) (SA (Int32.toNatClampNeg x2)))) (fun ST_5 => kL (x2 + 1) (fun v6 => ih ST_5 SH v6))))))) n
theorem f_X10_afresh_l2_z (N : Nat) (SA : (Nat → Int32)) (ST : zTS) (SH : zHS) (x2 : Int32) : f_X10_afresh_l2 N SA 0 ST SH x2 = none := rfl
theorem f_X10_afresh_l2_s (N : Nat) (SA : (Nat → Int32)) (n : Nat) (ST : zTS) (SH : zHS) (x2 : Int32) : f_X10_afresh_l2 N SA (n + 1) ST SH x2 = kB ((ST.1 2) ≤ x2) (f_X10_afresh_b31 N SA ST SH) (kB ((Int32.ofNat 5) ≤ x2) (f_X10_afresh_b31 N SA ST SH) (kO (¬ (x2 < 0 ∨ 5 ≤ Int32.toNatClampNeg x2)) (kO (¬ (x2 < 0 ∨ 7 ≤ Int32.toNatClampNeg x2)) (kL (tSA ST (upd (ST.2) (Int32.toNatClampNeg x2) (SA (Int32.toNatClampNeg x2)))) (fun ST_5 => kL (x2 + 1) (fun v6 => (f_X10_afresh_l2 N SA n) ST_5 SH v6)))))) := rfl
noncomputable def f_X10_afresh (N : Nat) (ST : zTS) (SH : zHS) (SA : (Nat → Int32)) : Option (zTS × zHS) := f_X10_afresh_l2 N SA N ST SH 0
theorem wv_X10_afresh : zWV RX10 yX10_afresh cX10_afresh 3 none 1 := ⟨wd_37_5, wd_37_6, wd_1_20, wd_37_7, by decide +kernel⟩
def rm_X10_afresh : Room := { frames := 0, cells := 0, slots := 0, locals := 0 }
set_option maxHeartbeats 4000000 in
set_option maxRecDepth 100000 in
theorem c_X10_afresh {l : Launch} {G : va_G} {ct : Nat → ClassId} {aT : Nat → Nat} {aH : Nat → Nat} {gA : Nat} {N : Nat} {ST : zTS} {SH : zHS} {SA : (Nat → Int32)} {OT : zTS} {OH : zHS} (hf : f_X10_afresh N ST SH SA = some (OT, OH)) : zC l yX10_afresh cX10_afresh 3 none rm_X10_afresh G ct [.ref (aT 200), .ref gA] [wT aT (aH 200) ct ST, wH aH ct SH, wA gA 5 ct SA] [wT aT (aH 200) ct OT, wH aH ct OH, wA gA 5 ct SA] none 0 0 := by
  refine z_enter (own := RX10) (lv := [(0, .ref (aT 200)), (1, .ref gA)]) (by decide) rfl (Nat.le_of_ble_eq_true rfl) rfl ?_
  intro p e s m args below meth c A E hr hnm
  have B31 : ∀ (ST : zTS) (SH : zHS), f_X10_afresh_b31 N SA ST SH = some (OT, OH) → zJ p l e rm_X10_afresh s m args below meth c (zQ G ct none [wT aT (aH 200) ct OT, wH aH ct OH, wA gA 5 ct SA] A below args s 0 0) A G 3 0 0 [wT aT (aH 200) ct ST, wH aH ct SH, wA gA 5 ct SA] [(0, .ref (aT 200))] 31 [] := by
    intro ST SH hf
    unfold f_X10_afresh_b31 at hf
    refine z_aload_n (pc := 31) (k0 := 0) E dX10_afresh_31 rfl rfl ?_
    refine z_iconst (pc := 32) (v := 0) E dX10_afresh_32 (by decide) ?_
    obtain ⟨ST_7, e_ST_7, hf⟩ := kL_e hf
    refine pT_3 (pc := 33) (i := 0) (S1 := ST_7) E rfl e_ST_7 wd_32_20 dX10_afresh_33 ?_
    show zJ p l e rm_X10_afresh s m args below meth c (zQ G ct none [wT aT (aH 200) ct OT, wH aH ct OH, wA gA 5 ct SA] A below args s 0 0) A G 3 0 0 [wT aT (aH 200) ct ST_7, wH aH ct SH, wA gA 5 ct SA] [(0, .ref (aT 200))] 36 []
    refine z_aload_n (pc := 36) (k0 := 0) E dX10_afresh_36 rfl rfl ?_
    refine gT_0 (pc := 37) (i := 0) E rfl wd_3_5 dX10_afresh_37 ?_
    refine z_iconst (pc := 40) (v := 0) E dX10_afresh_40 (by decide) ?_
    obtain ⟨SH_8, e_SH_8, hf⟩ := kL_e hf
    refine pH_11 (pc := 41) (i := 1) (S1 := SH_8) E rfl e_SH_8 wd_35_1 dX10_afresh_41 ?_
    show zJ p l e rm_X10_afresh s m args below meth c (zQ G ct none [wT aT (aH 200) ct OT, wH aH ct OH, wA gA 5 ct SA] A below args s 0 0) A G 3 0 0 [wT aT (aH 200) ct ST_7, wH aH ct SH_8, wA gA 5 ct SA] [(0, .ref (aT 200))] 44 []
    refine z_aload_n (pc := 44) (k0 := 0) E dX10_afresh_44 rfl rfl ?_
    refine gT_0 (pc := 45) (i := 0) E rfl wd_3_5 dX10_afresh_45 ?_
    refine z_iconst (pc := 48) (v := 0) E dX10_afresh_48 (by decide) ?_
    obtain ⟨SH_9, e_SH_9, hf⟩ := kL_e hf
    refine pH_12 (pc := 49) (i := 1) (S1 := SH_9) E rfl e_SH_9 wd_37_8 dX10_afresh_49 ?_
    show zJ p l e rm_X10_afresh s m args below meth c (zQ G ct none [wT aT (aH 200) ct OT, wH aH ct OH, wA gA 5 ct SA] A below args s 0 0) A G 3 0 0 [wT aT (aH 200) ct ST_7, wH aH ct SH_9, wA gA 5 ct SA] [(0, .ref (aT 200))] 52 []
    refine z_aload_n (pc := 52) (k0 := 0) E dX10_afresh_52 rfl rfl ?_
    refine gT_0 (pc := 53) (i := 0) E rfl wd_3_5 dX10_afresh_53 ?_
    refine z_iconst (pc := 56) (v := 0) E dX10_afresh_56 (by decide) ?_
    obtain ⟨SH_10, e_SH_10, hf⟩ := kL_e hf
    refine pH_13 (pc := 57) (i := 1) (S1 := SH_10) E rfl e_SH_10 wd_37_9 dX10_afresh_57 ?_
    show zJ p l e rm_X10_afresh s m args below meth c (zQ G ct none [wT aT (aH 200) ct OT, wH aH ct OH, wA gA 5 ct SA] A below args s 0 0) A G 3 0 0 [wT aT (aH 200) ct ST_7, wH aH ct SH_10, wA gA 5 ct SA] [(0, .ref (aT 200))] 60 []
    refine z_aload_n (pc := 60) (k0 := 0) E dX10_afresh_60 rfl rfl ?_
    refine gT_0 (pc := 61) (i := 0) E rfl wd_3_5 dX10_afresh_61 ?_
    refine z_iconst (pc := 64) (v := 0) E dX10_afresh_64 (by decide) ?_
    obtain ⟨SH_11, e_SH_11, hf⟩ := kL_e hf
    refine pH_14 (pc := 65) (i := 1) (S1 := SH_11) E rfl e_SH_11 wd_37_10 dX10_afresh_65 ?_
    show zJ p l e rm_X10_afresh s m args below meth c (zQ G ct none [wT aT (aH 200) ct OT, wH aH ct OH, wA gA 5 ct SA] A below args s 0 0) A G 3 0 0 [wT aT (aH 200) ct ST_7, wH aH ct SH_11, wA gA 5 ct SA] [(0, .ref (aT 200))] 68 []
    cases hf
    exact z_vret E hr dX10_afresh_68
  have L2 : ∀ (n2 : Nat) (ST : zTS) (SH : zHS) (x2 : Int32), f_X10_afresh_l2 N SA n2 ST SH x2 = some (OT, OH) → zJ p l e rm_X10_afresh s m args below meth c (zQ G ct none [wT aT (aH 200) ct OT, wH aH ct OH, wA gA 5 ct SA] A below args s 0 0) A G 3 0 0 [wT aT (aH 200) ct ST, wH aH ct SH, wA gA 5 ct SA] [(0, .ref (aT 200)), (1, .ref gA), (2, .int x2)] 2 [] := by
    intro n2
    induction n2 with
    | zero =>
      intro ST SH x2 hf
      rw [f_X10_afresh_l2_z] at hf
      cases hf
    | succ n2 ih2 =>
      intro ST SH x2 hf
      rw [f_X10_afresh_l2_s] at hf
      refine z_iload_n (pc := 2) (k0 := 2) E dX10_afresh_2 rfl rfl ?_
      refine z_aload_n (pc := 3) (k0 := 0) E dX10_afresh_3 rfl rfl ?_
      refine gT_2 (pc := 4) (i := 0) E rfl wd_32_18 dX10_afresh_4 ?_
      refine z_icmp_ge (pc := 7) (tgt := 31) E dX10_afresh_7 (by decide) (fun c1 => ?_) (fun c1 => ?_)
      · have hf := kB_t hf c1
        refine z_sub [0] (lv' := [(0, .ref (aT 200))]) rfl ?_
        exact B31 ST SH hf
      · have hf := kB_f hf c1
        refine z_iload_n (pc := 10) (k0 := 2) E dX10_afresh_10 rfl rfl ?_
        refine z_aload_n (pc := 11) (k0 := 1) E dX10_afresh_11 rfl rfl ?_
        refine nA_0 (pc := 12) (i := 2) E rfl dX10_afresh_12 ?_
        refine z_icmp_ge (pc := 13) (tgt := 31) E dX10_afresh_13 (by decide) (fun c2 => ?_) (fun c2 => ?_)
        · have hf := kB_t hf c2
          refine z_sub [0] (lv' := [(0, .ref (aT 200))]) rfl ?_
          exact B31 ST SH hf
        · have hf := kB_f hf c2
          refine z_aload_n (pc := 16) (k0 := 0) E dX10_afresh_16 rfl rfl ?_
          refine gT_1 (pc := 17) (i := 0) E rfl wd_3_6 dX10_afresh_17 ?_
          refine z_iload_n (pc := 20) (k0 := 2) E dX10_afresh_20 rfl rfl ?_
          refine z_aload_n (pc := 21) (k0 := 1) E dX10_afresh_21 rfl rfl ?_
          refine z_iload_n (pc := 22) (k0 := 2) E dX10_afresh_22 rfl rfl ?_
          obtain ⟨c3, hf⟩ := kO_e hf
          refine lA_0 (pc := 23) (i := 2) E rfl c3 dX10_afresh_23 ?_
          obtain ⟨c4, hf⟩ := kO_e hf
          obtain ⟨ST_5, e_ST_5, hf⟩ := kL_e hf
          refine sT_1 (pc := 24) (i := 0) (S1 := ST_5) E rfl c4 e_ST_5 dX10_afresh_24 ?_
          show zJ p l e rm_X10_afresh s m args below meth c (zQ G ct none [wT aT (aH 200) ct OT, wH aH ct OH, wA gA 5 ct SA] A below args s 0 0) A G 3 0 0 [wT aT (aH 200) ct ST_5, wH aH ct SH, wA gA 5 ct SA] [(0, .ref (aT 200)), (1, .ref gA), (2, .int x2)] 25 []
          obtain ⟨v6, e_v6, hf⟩ := kL_e hf
          refine z_iinc (pc := 25) (k0 := 2) (v := v6) (lv' := [(2, .int v6), (0, .ref (aT 200)), (1, .ref gA)]) E dX10_afresh_25 rfl e_v6 (by decide) rfl ?_
          refine z_goto (pc := 28) (tgt := 2) E dX10_afresh_28 (by decide) ?_
          refine z_sub [1, 2, 0] (lv' := [(0, .ref (aT 200)), (1, .ref gA), (2, .int v6)]) rfl ?_
          exact ih2 ST_5 SH v6 hf
  unfold f_X10_afresh at hf
  refine z_iconst (pc := 0) (v := 0) E dX10_afresh_0 (by decide) ?_
  refine z_istore_n (pc := 1) (lv' := [(2, .int 0), (0, .ref (aT 200)), (1, .ref gA)]) E dX10_afresh_1 rfl (by decide) rfl ?_
  refine z_sub [1, 2, 0] (lv' := [(0, .ref (aT 200)), (1, .ref gA), (2, .int 0)]) rfl ?_
  exact L2 N ST SH 0 hf
noncomputable def f_X10_goesOn (ST : zTS) (SH : zHS) : Option Int32 := kB ((ST.1 3) < 0) (some (0)) (kB ((ST.1 2) ≤ (ST.1 3)) (some (0)) (kB (7 < (ST.1 2)) (some (0)) (kC (f_X1_how SH) (fun r4 => kB (r4 = 0) (some (1)) (some (0))))))
theorem wv_X10_goesOn : zWV RX10 yX10_goesOn cX10_goesOn 1 (some .boolean) 0 := ⟨wd_33_12, wd_33_13, wd_1_20, wd_33_14, by decide +kernel⟩
def rm_X10_goesOn : Room := { frames := 1, cells := 0, slots := 0, locals := 20 }
set_option maxHeartbeats 4000000 in
set_option maxRecDepth 100000 in
theorem c_X10_goesOn {l : Launch} {G : va_G} {ct : Nat → ClassId} {aT : Nat → Nat} {aH : Nat → Nat} {ST : zTS} {SH : zHS} {r0 : Int32} (hf : f_X10_goesOn ST SH = some r0) : zC l yX10_goesOn cX10_goesOn 1 (some .boolean) rm_X10_goesOn G ct [.ref (aT 200)] [wT aT (aH 200) ct ST, wH aH ct SH] [wT aT (aH 200) ct ST, wH aH ct SH] (some (.int r0)) 0 0 := by
  refine z_enter (own := RX10) (lv := [(0, .ref (aT 200))]) (by decide) rfl (Nat.le_of_ble_eq_true rfl) rfl ?_
  intro p e s m args below meth c A E hr hnm
  unfold f_X10_goesOn at hf
  refine z_aload_n (pc := 0) (k0 := 0) E dX10_goesOn_0 rfl rfl ?_
  refine gT_3 (pc := 1) (i := 0) E rfl wd_32_20 dX10_goesOn_1 ?_
  refine z_if_lt (pc := 4) (tgt := 41) E dX10_goesOn_4 (by decide) (fun c1 => ?_) (fun c1 => ?_)
  · have hf := kB_t hf c1
    refine z_iconst (pc := 41) (v := 0) E dX10_goesOn_41 (by decide) ?_
    cases hf
    exact z_zret E hr (by decide) dX10_goesOn_42
  · have hf := kB_f hf c1
    refine z_aload_n (pc := 7) (k0 := 0) E dX10_goesOn_7 rfl rfl ?_
    refine gT_3 (pc := 8) (i := 0) E rfl wd_32_20 dX10_goesOn_8 ?_
    refine z_aload_n (pc := 11) (k0 := 0) E dX10_goesOn_11 rfl rfl ?_
    refine gT_2 (pc := 12) (i := 0) E rfl wd_32_18 dX10_goesOn_12 ?_
    refine z_icmp_ge (pc := 15) (tgt := 41) E dX10_goesOn_15 (by decide) (fun c2 => ?_) (fun c2 => ?_)
    · have hf := kB_t hf c2
      refine z_iconst (pc := 41) (v := 0) E dX10_goesOn_41 (by decide) ?_
      cases hf
      exact z_zret E hr (by decide) dX10_goesOn_42
    · have hf := kB_f hf c2
      refine z_aload_n (pc := 18) (k0 := 0) E dX10_goesOn_18 rfl rfl ?_
      refine gT_2 (pc := 19) (i := 0) E rfl wd_32_18 dX10_goesOn_19 ?_
      refine z_bipush (pc := 22) (v := 7) E dX10_goesOn_22 (by decide) ?_
      refine z_icmp_gt (pc := 24) (tgt := 41) E dX10_goesOn_24 (by decide) (fun c3 => ?_) (fun c3 => ?_)
      · have hf := kB_t hf c3
        refine z_iconst (pc := 41) (v := 0) E dX10_goesOn_41 (by decide) ?_
        cases hf
        exact z_zret E hr (by decide) dX10_goesOn_42
      · have hf := kB_f hf c3
        refine z_aload_n (pc := 27) (k0 := 0) E dX10_goesOn_27 rfl rfl ?_
        refine gT_0 (pc := 28) (i := 0) E rfl wd_3_5 dX10_goesOn_28 ?_
        obtain ⟨r4, h5, hf⟩ := kC_e hf
        refine z_callV0 (pc := 31) (is := [1]) (n := 0) (As := []) (st := []) (st' := [.int r4]) (C2 := [wT aT (aH 200) ct ST, wH aH ct SH]) E (c_X1_how (l := l) (G := G) (ct := ct) (aH := aH) h5) wv_X1_how wd_33_15 ⟨Nat.le_of_ble_eq_true rfl, Nat.le_of_ble_eq_true rfl, Nat.le_of_ble_eq_true rfl, Nat.le_of_ble_eq_true rfl⟩ rfl rfl rfl (by decide) rfl rfl (zrH (j := 0) rfl) rfl (Nat.le_of_ble_eq_true rfl) dX10_goesOn_31 rfl rfl ?_
        refine z_if_ne (pc := 34) (tgt := 41) E dX10_goesOn_34 (by decide) (fun c6 => ?_) (fun c6 => ?_)
        · have hf := kB_f hf c6
          refine z_iconst (pc := 41) (v := 0) E dX10_goesOn_41 (by decide) ?_
          cases hf
          exact z_zret E hr (by decide) dX10_goesOn_42
        · have hf := kB_t hf c6
          refine z_iconst (pc := 37) (v := 1) E dX10_goesOn_37 (by decide) ?_
          refine z_goto (pc := 38) (tgt := 42) E dX10_goesOn_38 (by decide) ?_
          cases hf
          exact z_zret E hr (by decide) dX10_goesOn_42
noncomputable def f_X10_step_b82 (N : Nat) (SD : (List (Nat × zPS))) (ST : zTS) (SH : zHS) (SE : (List ((Nat → Nat) × zQS))) (x2 : Int32) (x3 : Int32) (y0 : Int32) : Option (Int32 × zTS × zHS × ((List ((Nat → Nat) × zQS)))) := kL (tSI ST 3 y0) (fun ST_29 => kL ((ST_29.1 5) + 1) (fun v30 => kL (tSI ST_29 5 v30) (fun ST_31 => kB (x3 = 0) (kO (x3 = 0 ∨ x3 = 1) (some (x3, ST_31, SH, SE))) (kC (f_X1_has SH x2) (fun r34 => kB (r34 = 0) (kO (x3 = 0 ∨ x3 = 1) (some (x3, ST_31, SH, SE))) (kL ((ST_31.1 4) - 1) (fun v38 => kL (tSI ST_31 4 v38) (fun ST_39 => kO (¬ (x2 < 0 ∨ 7 ≤ Int32.toNatClampNeg x2)) (kL ((ST_39.1 6) + ((SH.2.1 0) (Int32.toNatClampNeg x2))) (fun v41 => kL (tSI ST_39 6 v41) (fun ST_42 => kO (x3 = 0 ∨ x3 = 1) (some (x3, ST_42, SH, SE)))))))))))))
noncomputable def f_X10_step_b47 (N : Nat) (SD : (List (Nat × zPS))) (ST : zTS) (SH : zHS) (SE : (List ((Nat → Nat) × zQS))) (x1 : Nat) (x2 : Int32) (y0 : Int32) : Option (Int32 × zTS × zHS × ((List ((Nat → Nat) × zQS)))) := kD (f_X1_pass N SH SD SE (some x1) x2 y0) (fun S_23 S_24 => kL ((ST.1 3) + 1) (fun v26 => kB ((ST.1 2) ≤ v26) (f_X10_step_b82 N SD ST S_23 S_24 x2 y0 0) (kL ((ST.1 3) + 1) (fun v28 => f_X10_step_b82 N SD ST S_23 S_24 x2 y0 v28))))
noncomputable def f_X10_step_b46 (N : Nat) (SD : (List (Nat × zPS))) (ST : zTS) (SH : zHS) (SE : (List ((Nat → Nat) × zQS))) (x1 : Nat) (x2 : Int32) : Option (Int32 × zTS × zHS × ((List ((Nat → Nat) × zQS)))) := f_X10_step_b47 N SD ST SH SE x1 x2 0
noncomputable def f_X10_step (N : Nat) (ST : zTS) (SH : zHS) (SD : (List (Nat × zPS))) (SE : (List ((Nat → Nat) × zQS))) (a1 : Option Nat) : Option (Int32 × zTS × zHS × ((List ((Nat → Nat) × zQS)))) := kN a1 (some (0, ST, SH, SE)) (fun w1 => kC (f_X10_goesOn ST SH) (fun r3 => kB (r3 = 0) (some (0, ST, SH, SE)) (kO (¬ ((ST.1 3) < 0 ∨ 7 ≤ Int32.toNatClampNeg (ST.1 3))) (kB ((ST.1 4) ≤ 0) (f_X10_step_b46 N SD ST SH SE w1 (ST.2 (Int32.toNatClampNeg (ST.1 3)))) (kC (plook SD w1) (fun pv8 => kC (f_v_grants pv8 SH (ST.2 (Int32.toNatClampNeg (ST.1 3)))) (fun r13 => kB (r13 = 0) (f_X10_step_b46 N SD ST SH SE w1 (ST.2 (Int32.toNatClampNeg (ST.1 3)))) (f_X10_step_b47 N SD ST SH SE w1 (ST.2 (Int32.toNatClampNeg (ST.1 3))) 1))))))))
theorem wv_X10_step : zWV RX10 yX10_step cX10_step 4 (some .boolean) 1 := ⟨wd_33_17, wd_33_18, wd_1_20, wd_33_19, by decide +kernel⟩
def rm_X10_step : Room := { frames := 4, cells := 0, slots := 0, locals := 124 }
set_option maxHeartbeats 4000000 in
set_option maxRecDepth 100000 in
theorem c_X10_step {l : Launch} {G : va_G} {ct : Nat → ClassId} {aT : Nat → Nat} {aH : Nat → Nat} {gG : Nat} {N : Nat} {ST : zTS} {SH : zHS} {SD : (List (Nat × zPS))} {SE : (List ((Nat → Nat) × zQS))} {a1 : Option Nat} {r0 : Int32} {OT : zTS} {OH : zHS} {OE : (List ((Nat → Nat) × zQS))} (hf : f_X10_step N ST SH SD SE a1 = some (r0, OT, OH, OE)) : zC l yX10_step cX10_step 4 (some .boolean) rm_X10_step G ct [.ref (aT 200), va_rf a1] [wT aT (aH 200) ct ST, wH aH ct SH, wDp gG SD, wDh ct SE] [wT aT (aH 200) ct OT, wH aH ct OH, wDp gG SD, wDh ct OE] (some (.int r0)) 0 0 := by
  refine z_enter (own := RX10) (lv := [(0, .ref (aT 200)), (1, va_rf a1)]) (by decide) rfl (by simp [lg_sl, zcat, zcr, zci, zcl]) (by simp [lv_args, zcat, zcr, zci, zcl]) ?_
  intro p e s m args below meth c A E hr hnm
  have B82 : ∀ (ST : zTS) (SH : zHS) (SE : (List ((Nat → Nat) × zQS))) (x2 : Int32) (x3 : Int32) (y0 : Int32), f_X10_step_b82 N SD ST SH SE x2 x3 y0 = some (r0, OT, OH, OE) → zJ p l e rm_X10_step s m args below meth c (zQ G ct (some (.int r0)) [wT aT (aH 200) ct OT, wH aH ct OH, wDp gG SD, wDh ct OE] A below args s 0 0) A G 4 0 0 [wT aT (aH 200) ct ST, wH aH ct SH, wDp gG SD, wDh ct SE] [(0, .ref (aT 200)), (2, .int x2), (3, .int x3)] 82 [.int y0, .ref (aT 200)] := by
    intro ST SH SE x2 x3 y0 hf
    unfold f_X10_step_b82 at hf
    obtain ⟨ST_29, e_ST_29, hf⟩ := kL_e hf
    refine pT_3 (pc := 82) (i := 0) (S1 := ST_29) E rfl e_ST_29 wd_32_20 dX10_step_82 ?_
    show zJ p l e rm_X10_step s m args below meth c (zQ G ct (some (.int r0)) [wT aT (aH 200) ct OT, wH aH ct OH, wDp gG SD, wDh ct OE] A below args s 0 0) A G 4 0 0 [wT aT (aH 200) ct ST_29, wH aH ct SH, wDp gG SD, wDh ct SE] [(0, .ref (aT 200)), (2, .int x2), (3, .int x3)] 85 []
    refine z_aload_n (pc := 85) (k0 := 0) E dX10_step_85 rfl rfl ?_
    refine z_dup (pc := 86) E dX10_step_86 rfl ?_
    refine gT_5 (pc := 87) (i := 0) E rfl wd_32_22 dX10_step_87 ?_
    refine z_iconst (pc := 90) (v := 1) E dX10_step_90 (by decide) ?_
    obtain ⟨v30, e_v30, hf⟩ := kL_e hf
    refine z_iadd (pc := 91) (v := v30) E dX10_step_91 e_v30 ?_
    obtain ⟨ST_31, e_ST_31, hf⟩ := kL_e hf
    refine pT_5 (pc := 92) (i := 0) (S1 := ST_31) E rfl e_ST_31 wd_32_22 dX10_step_92 ?_
    show zJ p l e rm_X10_step s m args below meth c (zQ G ct (some (.int r0)) [wT aT (aH 200) ct OT, wH aH ct OH, wDp gG SD, wDh ct OE] A below args s 0 0) A G 4 0 0 [wT aT (aH 200) ct ST_31, wH aH ct SH, wDp gG SD, wDh ct SE] [(0, .ref (aT 200)), (2, .int x2), (3, .int x3)] 95 []
    refine z_iload_n (pc := 95) (k0 := 2) E dX10_step_95 rfl rfl ?_
    refine z_if_eq (pc := 96) (tgt := 138) E dX10_step_96 (by decide) (fun c32 => ?_) (fun c32 => ?_)
    · have hf := kB_t hf c32
      refine z_iload_n (pc := 138) (k0 := 2) E dX10_step_138 rfl rfl ?_
      obtain ⟨c33, hf⟩ := kO_e hf
      cases hf
      exact z_zret E hr c33 dX10_step_139
    · have hf := kB_f hf c32
      refine z_aload_n (pc := 99) (k0 := 0) E dX10_step_99 rfl rfl ?_
      refine gT_0 (pc := 100) (i := 0) E rfl wd_3_5 dX10_step_100 ?_
      refine z_iload_n (pc := 103) (k0 := 1) E dX10_step_103 rfl rfl ?_
      obtain ⟨r34, h35, hf⟩ := kC_e hf
      refine z_callV0 (pc := 104) (is := [1]) (n := 1) (As := [.int x2]) (st := []) (st' := [.int r34]) (C2 := [wT aT (aH 200) ct ST_31, wH aH ct SH, wDp gG SD, wDh ct SE]) E (c_X1_has (l := l) (G := G) (ct := ct) (aH := aH) h35) wv_X1_has wd_34_0 ⟨Nat.le_of_ble_eq_true rfl, Nat.le_of_ble_eq_true rfl, Nat.le_of_ble_eq_true rfl, Nat.le_of_ble_eq_true rfl⟩ rfl rfl rfl (by decide) rfl rfl (zrH (j := 0) rfl) rfl (Nat.le_of_ble_eq_true rfl) dX10_step_104 rfl rfl ?_
      refine z_if_eq (pc := 107) (tgt := 138) E dX10_step_107 (by decide) (fun c36 => ?_) (fun c36 => ?_)
      · have hf := kB_t hf c36
        refine z_iload_n (pc := 138) (k0 := 2) E dX10_step_138 rfl rfl ?_
        obtain ⟨c37, hf⟩ := kO_e hf
        cases hf
        exact z_zret E hr c37 dX10_step_139
      · have hf := kB_f hf c36
        refine z_aload_n (pc := 110) (k0 := 0) E dX10_step_110 rfl rfl ?_
        refine z_dup (pc := 111) E dX10_step_111 rfl ?_
        refine gT_4 (pc := 112) (i := 0) E rfl wd_32_21 dX10_step_112 ?_
        refine z_iconst (pc := 115) (v := 1) E dX10_step_115 (by decide) ?_
        obtain ⟨v38, e_v38, hf⟩ := kL_e hf
        refine z_isub (pc := 116) (v := v38) E dX10_step_116 e_v38 ?_
        obtain ⟨ST_39, e_ST_39, hf⟩ := kL_e hf
        refine pT_4 (pc := 117) (i := 0) (S1 := ST_39) E rfl e_ST_39 wd_32_21 dX10_step_117 ?_
        show zJ p l e rm_X10_step s m args below meth c (zQ G ct (some (.int r0)) [wT aT (aH 200) ct OT, wH aH ct OH, wDp gG SD, wDh ct OE] A below args s 0 0) A G 4 0 0 [wT aT (aH 200) ct ST_39, wH aH ct SH, wDp gG SD, wDh ct SE] [(0, .ref (aT 200)), (2, .int x2), (3, .int x3)] 120 []
        refine z_aload_n (pc := 120) (k0 := 0) E dX10_step_120 rfl rfl ?_
        refine z_dup (pc := 121) E dX10_step_121 rfl ?_
        refine gT_6 (pc := 122) (i := 0) E rfl wd_32_23 dX10_step_122 ?_
        refine z_aload_n (pc := 125) (k0 := 0) E dX10_step_125 rfl rfl ?_
        refine gT_0 (pc := 126) (i := 0) E rfl wd_3_5 dX10_step_126 ?_
        refine gH_0 (pc := 129) (i := 1) E rfl wd_33_20 dX10_step_129 ?_
        refine z_iload_n (pc := 132) (k0 := 1) E dX10_step_132 rfl rfl ?_
        obtain ⟨c40, hf⟩ := kO_e hf
        refine lH_0 (pc := 133) (i := 1) E rfl c40 dX10_step_133 ?_
        obtain ⟨v41, e_v41, hf⟩ := kL_e hf
        refine z_iadd (pc := 134) (v := v41) E dX10_step_134 e_v41 ?_
        obtain ⟨ST_42, e_ST_42, hf⟩ := kL_e hf
        refine pT_6 (pc := 135) (i := 0) (S1 := ST_42) E rfl e_ST_42 wd_32_23 dX10_step_135 ?_
        show zJ p l e rm_X10_step s m args below meth c (zQ G ct (some (.int r0)) [wT aT (aH 200) ct OT, wH aH ct OH, wDp gG SD, wDh ct OE] A below args s 0 0) A G 4 0 0 [wT aT (aH 200) ct ST_42, wH aH ct SH, wDp gG SD, wDh ct SE] [(0, .ref (aT 200)), (2, .int x2), (3, .int x3)] 138 []
        refine z_iload_n (pc := 138) (k0 := 2) E dX10_step_138 rfl rfl ?_
        obtain ⟨c43, hf⟩ := kO_e hf
        cases hf
        exact z_zret E hr c43 dX10_step_139
  have B47 : ∀ (ST : zTS) (SH : zHS) (SE : (List ((Nat → Nat) × zQS))) (x1 : Nat) (x2 : Int32) (y0 : Int32), f_X10_step_b47 N SD ST SH SE x1 x2 y0 = some (r0, OT, OH, OE) → zJ p l e rm_X10_step s m args below meth c (zQ G ct (some (.int r0)) [wT aT (aH 200) ct OT, wH aH ct OH, wDp gG SD, wDh ct OE] A below args s 0 0) A G 4 0 0 [wT aT (aH 200) ct ST, wH aH ct SH, wDp gG SD, wDh ct SE] [(0, .ref (aT 200)), (1, .ref x1), (2, .int x2)] 47 [.int y0] := by
    intro ST SH SE x1 x2 y0 hf
    unfold f_X10_step_b47 at hf
    refine z_istore_n (pc := 47) (lv' := [(3, .int y0), (0, .ref (aT 200)), (1, .ref x1), (2, .int x2)]) E dX10_step_47 rfl (by decide) rfl ?_
    refine z_aload_n (pc := 48) (k0 := 1) E dX10_step_48 rfl rfl ?_
    refine gT_0 (pc := 49) (i := 0) E rfl wd_3_5 dX10_step_49 ?_
    refine z_aload_n (pc := 52) (k0 := 2) E dX10_step_52 rfl rfl ?_
    refine z_iload_n (pc := 53) (k0 := 3) E dX10_step_53 rfl rfl ?_
    refine z_iload_n (pc := 54) (k0 := 0) E dX10_step_54 rfl rfl ?_
    obtain ⟨S_23, S_24, h25, hf⟩ := kD_e hf
    refine z_callV0 (pc := 55) (is := [1, 2, 3]) (n := 3) (As := [.ref x1, .int x2, .int y0]) (st := []) (st' := []) (C2 := [wT aT (aH 200) ct ST, wH aH ct S_23, wDp gG SD, wDh ct S_24]) E (c_X1_pass (l := l) (G := G) (ct := ct) (aH := aH) (gG := gG) h25) wv_X1_pass wd_33_23 ⟨Nat.le_of_ble_eq_true rfl, Nat.le_of_ble_eq_true rfl, Nat.le_of_ble_eq_true rfl, Nat.le_of_ble_eq_true rfl⟩ rfl rfl rfl (by decide) rfl rfl (zrH (j := 0) rfl) rfl (Nat.le_of_ble_eq_true rfl) dX10_step_55 rfl rfl ?_
    refine z_aload_n (pc := 58) (k0 := 1) E dX10_step_58 rfl rfl ?_
    refine z_aload_n (pc := 59) (k0 := 1) E dX10_step_59 rfl rfl ?_
    refine gT_3 (pc := 60) (i := 0) E rfl wd_32_20 dX10_step_60 ?_
    refine z_iconst (pc := 63) (v := 1) E dX10_step_63 (by decide) ?_
    obtain ⟨v26, e_v26, hf⟩ := kL_e hf
    refine z_iadd (pc := 64) (v := v26) E dX10_step_64 e_v26 ?_
    refine z_aload_n (pc := 65) (k0 := 1) E dX10_step_65 rfl rfl ?_
    refine gT_2 (pc := 66) (i := 0) E rfl wd_32_18 dX10_step_66 ?_
    refine z_icmp_ge (pc := 69) (tgt := 81) E dX10_step_69 (by decide) (fun c27 => ?_) (fun c27 => ?_)
    · have hf := kB_t hf c27
      refine z_iconst (pc := 81) (v := 0) E dX10_step_81 (by decide) ?_
      refine z_sub [1, 3, 0] (lv' := [(0, .ref (aT 200)), (2, .int x2), (3, .int y0)]) rfl ?_
      exact B82 ST S_23 S_24 x2 y0 0 hf
    · have hf := kB_f hf c27
      refine z_aload_n (pc := 72) (k0 := 1) E dX10_step_72 rfl rfl ?_
      refine gT_3 (pc := 73) (i := 0) E rfl wd_32_20 dX10_step_73 ?_
      refine z_iconst (pc := 76) (v := 1) E dX10_step_76 (by decide) ?_
      obtain ⟨v28, e_v28, hf⟩ := kL_e hf
      refine z_iadd (pc := 77) (v := v28) E dX10_step_77 e_v28 ?_
      refine z_goto (pc := 78) (tgt := 82) E dX10_step_78 (by decide) ?_
      refine z_sub [1, 3, 0] (lv' := [(0, .ref (aT 200)), (2, .int x2), (3, .int y0)]) rfl ?_
      exact B82 ST S_23 S_24 x2 y0 v28 hf
  have B46 : ∀ (ST : zTS) (SH : zHS) (SE : (List ((Nat → Nat) × zQS))) (x1 : Nat) (x2 : Int32), f_X10_step_b46 N SD ST SH SE x1 x2 = some (r0, OT, OH, OE) → zJ p l e rm_X10_step s m args below meth c (zQ G ct (some (.int r0)) [wT aT (aH 200) ct OT, wH aH ct OH, wDp gG SD, wDh ct OE] A below args s 0 0) A G 4 0 0 [wT aT (aH 200) ct ST, wH aH ct SH, wDp gG SD, wDh ct SE] [(0, .ref (aT 200)), (1, .ref x1), (2, .int x2)] 46 [] := by
    intro ST SH SE x1 x2 hf
    unfold f_X10_step_b46 at hf
    refine z_iconst (pc := 46) (v := 0) E dX10_step_46 (by decide) ?_
    exact B47 ST SH SE x1 x2 0 hf
  unfold f_X10_step at hf
  refine z_qload_n (pc := 0) (k0 := 1) E dX10_step_0 rfl rfl ?_
  refine z_ifnull (pc := 1) (tgt := 11) E dX10_step_1 (by decide) (fun e2 => ?_) (fun w1 e2 => ?_)
  · have hf := kN_n hf e2
    refine z_iconst (pc := 11) (v := 0) E dX10_step_11 (by decide) ?_
    cases hf
    exact z_zret E hr (by decide) dX10_step_12
  · have hf := kN_s hf e2
    have hf_e2 := hf
    subst e2
    have hf := hf_e2
    refine z_aload_n (pc := 4) (k0 := 0) E dX10_step_4 rfl rfl ?_
    obtain ⟨r3, h4, hf⟩ := kC_e hf
    refine z_callV0 (pc := 5) (is := [0, 1]) (n := 0) (As := []) (st := []) (st' := [.int r3]) (C2 := [wT aT (aH 200) ct ST, wH aH ct SH, wDp gG SD, wDh ct SE]) E (c_X10_goesOn (l := l) (G := G) (ct := ct) (aT := aT) (aH := aH) h4) wv_X10_goesOn wd_33_11 ⟨Nat.le_of_ble_eq_true rfl, Nat.le_of_ble_eq_true rfl, Nat.le_of_ble_eq_true rfl, Nat.le_of_ble_eq_true rfl⟩ rfl rfl rfl (by decide) rfl rfl (zrT (j := 0) rfl) rfl (Nat.le_of_ble_eq_true rfl) dX10_step_5 rfl rfl ?_
    refine z_if_ne (pc := 8) (tgt := 13) E dX10_step_8 (by decide) (fun c5 => ?_) (fun c5 => ?_)
    · have hf := kB_f hf c5
      refine z_aload_n (pc := 13) (k0 := 0) E dX10_step_13 rfl rfl ?_
      refine gT_1 (pc := 14) (i := 0) E rfl wd_3_6 dX10_step_14 ?_
      refine z_aload_n (pc := 17) (k0 := 0) E dX10_step_17 rfl rfl ?_
      refine gT_3 (pc := 18) (i := 0) E rfl wd_32_20 dX10_step_18 ?_
      obtain ⟨c6, hf⟩ := kO_e hf
      refine lT_1 (pc := 21) (i := 0) E rfl c6 dX10_step_21 ?_
      refine z_istore_n (pc := 22) (lv' := [(2, .int (ST.2 (Int32.toNatClampNeg (ST.1 3)))), (0, .ref (aT 200)), (1, .ref w1)]) E dX10_step_22 rfl (by decide) rfl ?_
      refine z_aload_n (pc := 23) (k0 := 1) E dX10_step_23 rfl rfl ?_
      refine gT_4 (pc := 24) (i := 0) E rfl wd_32_21 dX10_step_24 ?_
      refine z_if_le (pc := 27) (tgt := 46) E dX10_step_27 (by decide) (fun c7 => ?_) (fun c7 => ?_)
      · have hf := kB_t hf c7
        refine z_sub [1, 2, 0] (lv' := [(0, .ref (aT 200)), (1, .ref w1), (2, .int (ST.2 (Int32.toNatClampNeg (ST.1 3))))]) rfl ?_
        exact B46 ST SH SE w1 (ST.2 (Int32.toNatClampNeg (ST.1 3))) hf
      · have hf := kB_f hf c7
        refine z_aload_n (pc := 30) (k0 := 2) E dX10_step_30 rfl rfl ?_
        refine z_aload_n (pc := 31) (k0 := 1) E dX10_step_31 rfl rfl ?_
        refine gT_0 (pc := 32) (i := 0) E rfl wd_3_5 dX10_step_32 ?_
        refine z_iload_n (pc := 35) (k0 := 0) E dX10_step_35 rfl rfl ?_
        obtain ⟨pv8, hp9, hf⟩ := kC_e hf
        obtain ⟨DA10, DB11, eD12⟩ := wDp_at (g := gG) hp9
        obtain ⟨r13, h14, hf⟩ := kC_e hf
        refine z_world (Cs' := [wT aT (aH 200) ct ST, wH aH ct SH, DA10, wPa gG w1 pv8, DB11, wDh ct SE]) (by rw [eD12]; simp [zfl]) ?_
        have K15 : zJ p l e rm_X10_step s m args below meth c (zQ G ct (some (.int r0)) [wT aT (aH 200) ct OT, wH aH ct OH, wDp gG SD, wDh ct OE] A below args s 0 0) A G 4 0 0 [wT aT (aH 200) ct ST, wH aH ct SH, wDp gG SD, wDh ct SE] [(2, .int (ST.2 (Int32.toNatClampNeg (ST.1 3)))), (0, .ref (aT 200)), (1, .ref w1)] 39 [.int r13] := by
          refine z_if_eq (pc := 39) (tgt := 46) E dX10_step_39 (by decide) (fun c16 => ?_) (fun c16 => ?_)
          · have hf := kB_t hf c16
            refine z_sub [1, 2, 0] (lv' := [(0, .ref (aT 200)), (1, .ref w1), (2, .int (ST.2 (Int32.toNatClampNeg (ST.1 3))))]) rfl ?_
            exact B46 ST SH SE w1 (ST.2 (Int32.toNatClampNeg (ST.1 3))) hf
          · have hf := kB_f hf c16
            refine z_iconst (pc := 42) (v := 1) E dX10_step_42 (by decide) ?_
            refine z_goto (pc := 43) (tgt := 47) E dX10_step_43 (by decide) ?_
            refine z_sub [1, 2, 0] (lv' := [(0, .ref (aT 200)), (1, .ref w1), (2, .int (ST.2 (Int32.toNatClampNeg (ST.1 3))))]) rfl ?_
            exact B47 ST SH SE w1 (ST.2 (Int32.toNatClampNeg (ST.1 3))) 1 hf
        by_cases k17 : pv8.1 = 1
        · have h14 := f_v_grants_1 k17 h14
          refine z_callO (x := ⟨"MoreStory$Parent", "grants", "(LMoreStory$Home;I)Z"⟩) (owner := "MoreStory$Parent") (pc := 36) (is := [3, 1]) (n := 2) (As := [.ref (aH 200), .int (ST.2 (Int32.toNatClampNeg (ST.1 3)))]) (st := []) (st' := [.int r13]) (C2 := [wT aT (aH 200) ct ST, wH aH ct SH, DA10, wPa gG w1 pv8, DB11, wDh ct SE]) E (c_X6_grants (l := l) (G := G) (ct := ct) (gG := gG) (aP := w1) (aH := aH) h14) wd_33_21 wd_11_16 wd_11_17 wd_13_8 wd_13_0 wd_8_4 wd_13_1 wd_12_11 ⟨by decide, by decide, by decide +kernel⟩ ⟨Nat.le_of_ble_eq_true rfl, Nat.le_of_ble_eq_true rfl, Nat.le_of_ble_eq_true rfl, Nat.le_of_ble_eq_true rfl⟩ rfl rfl rfl (by decide) rfl rfl (zrP6 k17 (j := 0) rfl) rfl (Nat.le_of_ble_eq_true rfl) dX10_step_36 rfl rfl ?_
          refine z_world (Cs' := [wT aT (aH 200) ct ST, wH aH ct SH, wDp gG SD, wDh ct SE]) (by rw [eD12]; simp [zfl]) ?_
          exact K15
        by_cases k18 : pv8.1 = 2
        · have h14 := f_v_grants_2 k18 h14
          refine z_callO (x := ⟨"MoreStory$Parent", "grants", "(LMoreStory$Home;I)Z"⟩) (owner := "MoreStory$Parent") (pc := 36) (is := [3, 1]) (n := 2) (As := [.ref (aH 200), .int (ST.2 (Int32.toNatClampNeg (ST.1 3)))]) (st := []) (st' := [.int r13]) (C2 := [wT aT (aH 200) ct ST, wH aH ct SH, DA10, wPa gG w1 pv8, DB11, wDh ct SE]) E (c_X7_grants (l := l) (G := G) (ct := ct) (gG := gG) (aP := w1) (aH := aH) h14) wd_33_21 wd_11_16 wd_11_17 wd_13_9 wd_12_3 wd_8_7 wd_12_4 wd_12_11 ⟨by decide, by decide, by decide +kernel⟩ ⟨Nat.le_of_ble_eq_true rfl, Nat.le_of_ble_eq_true rfl, Nat.le_of_ble_eq_true rfl, Nat.le_of_ble_eq_true rfl⟩ rfl rfl rfl (by decide) rfl rfl (zrP7 k18 (j := 0) rfl) rfl (Nat.le_of_ble_eq_true rfl) dX10_step_36 rfl rfl ?_
          refine z_world (Cs' := [wT aT (aH 200) ct ST, wH aH ct SH, wDp gG SD, wDh ct SE]) (by rw [eD12]; simp [zfl]) ?_
          exact K15
        by_cases k19 : pv8.1 = 3
        · have h14 := f_v_grants_3 k19 h14
          refine z_callO (x := ⟨"MoreStory$Parent", "grants", "(LMoreStory$Home;I)Z"⟩) (owner := "MoreStory$Parent") (pc := 36) (is := [3, 1]) (n := 2) (As := [.ref (aH 200), .int (ST.2 (Int32.toNatClampNeg (ST.1 3)))]) (st := []) (st' := [.int r13]) (C2 := [wT aT (aH 200) ct ST, wH aH ct SH, DA10, wPa gG w1 pv8, DB11, wDh ct SE]) E (c_X8_grants (l := l) (G := G) (ct := ct) (gG := gG) (aP := w1) (aH := aH) h14) wd_33_21 wd_11_16 wd_11_17 wd_13_10 wd_13_11 wd_8_10 wd_13_12 wd_12_11 ⟨by decide, by decide, by decide +kernel⟩ ⟨Nat.le_of_ble_eq_true rfl, Nat.le_of_ble_eq_true rfl, Nat.le_of_ble_eq_true rfl, Nat.le_of_ble_eq_true rfl⟩ rfl rfl rfl (by decide) rfl rfl (zrP8 k19 (j := 0) rfl) rfl (Nat.le_of_ble_eq_true rfl) dX10_step_36 rfl rfl ?_
          refine z_world (Cs' := [wT aT (aH 200) ct ST, wH aH ct SH, wDp gG SD, wDh ct SE]) (by rw [eD12]; simp [zfl]) ?_
          exact K15
        by_cases k20 : pv8.1 = 4
        · have h14 := f_v_grants_4 k20 h14
          refine z_callO (x := ⟨"MoreStory$Parent", "grants", "(LMoreStory$Home;I)Z"⟩) (owner := "MoreStory$Parent") (pc := 36) (is := [3, 1]) (n := 2) (As := [.ref (aH 200), .int (ST.2 (Int32.toNatClampNeg (ST.1 3)))]) (st := []) (st' := [.int r13]) (C2 := [wT aT (aH 200) ct ST, wH aH ct SH, DA10, wPa gG w1 pv8, DB11, wDh ct SE]) E (c_X3_grants (l := l) (G := G) (ct := ct) (gG := gG) (aP := w1) (aH := aH) h14) wd_33_21 wd_11_16 wd_11_17 wd_12_17 wd_12_18 wd_8_13 wd_12_19 wd_12_11 ⟨by decide, by decide, by decide +kernel⟩ ⟨Nat.le_of_ble_eq_true rfl, Nat.le_of_ble_eq_true rfl, Nat.le_of_ble_eq_true rfl, Nat.le_of_ble_eq_true rfl⟩ rfl rfl rfl (by decide) rfl rfl (zrP3 k20 (j := 0) rfl) rfl (Nat.le_of_ble_eq_true rfl) dX10_step_36 rfl rfl ?_
          refine z_world (Cs' := [wT aT (aH 200) ct ST, wH aH ct SH, wDp gG SD, wDh ct SE]) (by rw [eD12]; simp [zfl]) ?_
          exact K15
        by_cases k21 : pv8.1 = 5
        · have h14 := f_v_grants_5 k21 h14
          refine z_callO (x := ⟨"MoreStory$Parent", "grants", "(LMoreStory$Home;I)Z"⟩) (owner := "MoreStory$Parent") (pc := 36) (is := [3, 1]) (n := 2) (As := [.ref (aH 200), .int (ST.2 (Int32.toNatClampNeg (ST.1 3)))]) (st := []) (st' := [.int r13]) (C2 := [wT aT (aH 200) ct ST, wH aH ct SH, DA10, wPa gG w1 pv8, DB11, wDh ct SE]) E (c_X0_grants (l := l) (G := G) (ct := ct) (gG := gG) (aP := w1) (aH := aH) h14) wd_33_21 wd_11_16 wd_11_17 wd_11_18 wd_11_19 wd_8_16 wd_11_20 wd_12_11 ⟨by decide, by decide, by decide +kernel⟩ ⟨Nat.le_of_ble_eq_true rfl, Nat.le_of_ble_eq_true rfl, Nat.le_of_ble_eq_true rfl, Nat.le_of_ble_eq_true rfl⟩ rfl rfl rfl (by decide) rfl rfl (zrP0 k21 (j := 0) rfl) rfl (Nat.le_of_ble_eq_true rfl) dX10_step_36 rfl rfl ?_
          refine z_world (Cs' := [wT aT (aH 200) ct ST, wH aH ct SH, wDp gG SD, wDh ct SE]) (by rw [eD12]; simp [zfl]) ?_
          exact K15
        by_cases k22 : pv8.1 = 6
        · have h14 := f_v_grants_6 k22 h14
          refine z_callO (x := ⟨"MoreStory$Parent", "grants", "(LMoreStory$Home;I)Z"⟩) (owner := "MoreStory$Parent") (pc := 36) (is := [3, 1]) (n := 2) (As := [.ref (aH 200), .int (ST.2 (Int32.toNatClampNeg (ST.1 3)))]) (st := []) (st' := [.int r13]) (C2 := [wT aT (aH 200) ct ST, wH aH ct SH, DA10, wPa gG w1 pv8, DB11, wDh ct SE]) E (c_X9_grants (l := l) (G := G) (ct := ct) (gG := gG) (aP := w1) (aH := aH) h14) wd_33_21 wd_11_16 wd_11_17 wd_13_17 wd_13_18 wd_8_19 wd_13_19 wd_12_11 ⟨by decide, by decide, by decide +kernel⟩ ⟨Nat.le_of_ble_eq_true rfl, Nat.le_of_ble_eq_true rfl, Nat.le_of_ble_eq_true rfl, Nat.le_of_ble_eq_true rfl⟩ rfl rfl rfl (by decide) rfl rfl (zrP9 k22 (j := 0) rfl) rfl (Nat.le_of_ble_eq_true rfl) dX10_step_36 rfl rfl ?_
          refine z_world (Cs' := [wT aT (aH 200) ct ST, wH aH ct SH, wDp gG SD, wDh ct SE]) (by rw [eD12]; simp [zfl]) ?_
          exact K15
        have h14 := f_v_grants_e k17 k18 k19 k20 k21 k22 h14
        refine z_callV0 (pc := 36) (is := [3, 1]) (n := 2) (As := [.ref (aH 200), .int (ST.2 (Int32.toNatClampNeg (ST.1 3)))]) (st := []) (st' := [.int r13]) (C2 := [wT aT (aH 200) ct ST, wH aH ct SH, DA10, wPa gG w1 pv8, DB11, wDh ct SE]) E (c_X4_grants (l := l) (G := G) (ct := ct) (gG := gG) (aP := w1) (aH := aH) h14) wv_X4_grants wd_33_22 ⟨Nat.le_of_ble_eq_true rfl, Nat.le_of_ble_eq_true rfl, Nat.le_of_ble_eq_true rfl, Nat.le_of_ble_eq_true rfl⟩ rfl rfl rfl (by decide) rfl rfl (zrP4 k17 k18 k19 k20 k21 k22 (j := 0) rfl) rfl (Nat.le_of_ble_eq_true rfl) dX10_step_36 rfl rfl ?_
        refine z_world (Cs' := [wT aT (aH 200) ct ST, wH aH ct SH, wDp gG SD, wDh ct SE]) (by rw [eD12]; simp [zfl]) ?_
        exact K15
    · have hf := kB_t hf c5
      refine z_iconst (pc := 11) (v := 0) E dX10_step_11 (by decide) ?_
      cases hf
      exact z_zret E hr (by decide) dX10_step_12
noncomputable def f_X10_run_l3 (N : Nat) (SD : (List (Nat × zPS))) : Nat → zTS → zHS → ((List ((Nat → Nat) × zQS))) → (Option Nat) → (Option Nat) → Int32 → Int32 → Option (zTS × zHS × ((List ((Nat → Nat) × zQS)))) := fun n => Nat.rec (motive := fun _ => zTS → zHS → ((List ((Nat → Nat) × zQS))) → (Option Nat) → (Option Nat) → Int32 → Int32 → Option (zTS × zHS × ((List ((Nat → Nat) × zQS))))) (fun _ _ _ _ _ _ _ => none) (fun _ ih ST SH SE x1 x2 x3 x4 => kB (x3 ≤ x4) (some (ST, SH, SE)) (kC (f_X10_goesOn ST SH) (fun r2 => kB (r2 = 0) (some (ST, SH, SE)) (kL (x4 - x4 / 2 * 2) (fun v5 => kB (v5 = 0) (kD4 (f_X10_step N ST SH SD SE x1) (fun r13 S_14 S_15 S_16 => kL (x4 + 1) (fun v18 => ih S_14 S_15 S_16 x1 x2 x3 v18))) (kD4 (f_X10_step N ST SH SD SE x2) (fun r7 S_8 S_9 S_10 => kL (x4 + 1) (fun v12 => ih S_8 S_9 S_10 x1 x2 x3 v12)))))))) n
theorem f_X10_run_l3_z (N : Nat) (SD : (List (Nat × zPS))) (ST : zTS) (SH : zHS) (SE : (List ((Nat → Nat) × zQS))) (x1 : Option Nat) (x2 : Option Nat) (x3 : Int32) (x4 : Int32) : f_X10_run_l3 N SD 0 ST SH SE x1 x2 x3 x4 = none := rfl
theorem f_X10_run_l3_s (N : Nat) (SD : (List (Nat × zPS))) (n : Nat) (ST : zTS) (SH : zHS) (SE : (List ((Nat → Nat) × zQS))) (x1 : Option Nat) (x2 : Option Nat) (x3 : Int32) (x4 : Int32) : f_X10_run_l3 N SD (n + 1) ST SH SE x1 x2 x3 x4 = kB (x3 ≤ x4) (some (ST, SH, SE)) (kC (f_X10_goesOn ST SH) (fun r2 => kB (r2 = 0) (some (ST, SH, SE)) (kL (x4 - x4 / 2 * 2) (fun v5 => kB (v5 = 0) (kD4 (f_X10_step N ST SH SD SE x1) (fun r13 S_14 S_15 S_16 => kL (x4 + 1) (fun v18 => (f_X10_run_l3 N SD n) S_14 S_15 S_16 x1 x2 x3 v18))) (kD4 (f_X10_step N ST SH SD SE x2) (fun r7 S_8 S_9 S_10 => kL (x4 + 1) (fun v12 => (f_X10_run_l3 N SD n) S_8 S_9 S_10 x1 x2 x3 v12))))))) := rfl
noncomputable def f_X10_run (N : Nat) (ST : zTS) (SH : zHS) (SD : (List (Nat × zPS))) (SE : (List ((Nat → Nat) × zQS))) (a1 : Option Nat) (a2 : Option Nat) (a3 : Int32) : Option (zTS × zHS × ((List ((Nat → Nat) × zQS)))) := f_X10_run_l3 N SD N ST SH SE a1 a2 a3 0
theorem wv_X10_run : zWV RX10 yX10_run cX10_run 5 none 3 := ⟨wd_33_8, wd_33_9, wd_1_20, wd_33_10, by decide +kernel⟩
def rm_X10_run : Room := { frames := 5, cells := 0, slots := 0, locals := 147 }
set_option maxHeartbeats 4000000 in
set_option maxRecDepth 100000 in
theorem c_X10_run {l : Launch} {G : va_G} {ct : Nat → ClassId} {aT : Nat → Nat} {aH : Nat → Nat} {gG : Nat} {N : Nat} {ST : zTS} {SH : zHS} {SD : (List (Nat × zPS))} {SE : (List ((Nat → Nat) × zQS))} {a1 : Option Nat} {a2 : Option Nat} {a3 : Int32} {OT : zTS} {OH : zHS} {OE : (List ((Nat → Nat) × zQS))} (hf : f_X10_run N ST SH SD SE a1 a2 a3 = some (OT, OH, OE)) : zC l yX10_run cX10_run 5 none rm_X10_run G ct [.ref (aT 200), va_rf a1, va_rf a2, .int a3] [wT aT (aH 200) ct ST, wH aH ct SH, wDp gG SD, wDh ct SE] [wT aT (aH 200) ct OT, wH aH ct OH, wDp gG SD, wDh ct OE] none 0 0 := by
  refine z_enter (own := RX10) (lv := [(0, .ref (aT 200)), (1, va_rf a1), (2, va_rf a2), (3, .int a3)]) (by decide) rfl (by simp [lg_sl, zcat, zcr, zci, zcl]) (by simp [lv_args, zcat, zcr, zci, zcl]) ?_
  intro p e s m args below meth c A E hr hnm
  have L3 : ∀ (n3 : Nat) (ST : zTS) (SH : zHS) (SE : (List ((Nat → Nat) × zQS))) (x1 : Option Nat) (x2 : Option Nat) (x3 : Int32) (x4 : Int32), f_X10_run_l3 N SD n3 ST SH SE x1 x2 x3 x4 = some (OT, OH, OE) → zJ p l e rm_X10_run s m args below meth c (zQ G ct none [wT aT (aH 200) ct OT, wH aH ct OH, wDp gG SD, wDh ct OE] A below args s 0 0) A G 5 0 0 [wT aT (aH 200) ct ST, wH aH ct SH, wDp gG SD, wDh ct SE] [(0, .ref (aT 200)), (1, va_rf x1), (2, va_rf x2), (3, .int x3), (4, .int x4)] 3 [] := by
    intro n3
    induction n3 with
    | zero =>
      intro ST SH SE x1 x2 x3 x4 hf
      rw [f_X10_run_l3_z] at hf
      cases hf
    | succ n3 ih3 =>
      intro ST SH SE x1 x2 x3 x4 hf
      rw [f_X10_run_l3_s] at hf
      refine z_iload (pc := 3) (k0 := 4) E dX10_run_3 rfl ?_
      refine z_iload_n (pc := 5) (k0 := 3) E dX10_run_5 rfl rfl ?_
      refine z_icmp_ge (pc := 6) (tgt := 39) E dX10_run_6 (by decide) (fun c1 => ?_) (fun c1 => ?_)
      · have hf := kB_t hf c1
        cases hf
        exact z_vret E hr dX10_run_39
      · have hf := kB_f hf c1
        refine z_aload_n (pc := 9) (k0 := 0) E dX10_run_9 rfl rfl ?_
        obtain ⟨r2, h3, hf⟩ := kC_e hf
        refine z_callV0 (pc := 10) (is := [0, 1]) (n := 0) (As := []) (st := []) (st' := [.int r2]) (C2 := [wT aT (aH 200) ct ST, wH aH ct SH, wDp gG SD, wDh ct SE]) E (c_X10_goesOn (l := l) (G := G) (ct := ct) (aT := aT) (aH := aH) h3) wv_X10_goesOn wd_33_11 ⟨Nat.le_of_ble_eq_true rfl, Nat.le_of_ble_eq_true rfl, Nat.le_of_ble_eq_true rfl, Nat.le_of_ble_eq_true rfl⟩ rfl rfl rfl (by decide) rfl rfl (zrT (j := 0) rfl) rfl (Nat.le_of_ble_eq_true rfl) dX10_run_10 rfl rfl ?_
        refine z_if_eq (pc := 13) (tgt := 39) E dX10_run_13 (by decide) (fun c4 => ?_) (fun c4 => ?_)
        · have hf := kB_t hf c4
          cases hf
          exact z_vret E hr dX10_run_39
        · have hf := kB_f hf c4
          refine z_aload_n (pc := 16) (k0 := 0) E dX10_run_16 rfl rfl ?_
          refine z_iload (pc := 17) (k0 := 4) E dX10_run_17 rfl ?_
          refine z_iconst (pc := 19) (v := 2) E dX10_run_19 (by decide) ?_
          obtain ⟨v5, e_v5, hf⟩ := kL_e hf
          refine z_irem (pc := 20) (v := v5) E dX10_run_20 (by decide) e_v5 ?_
          refine z_if_ne (pc := 21) (tgt := 28) E dX10_run_21 (by decide) (fun c6 => ?_) (fun c6 => ?_)
          · have hf := kB_f hf c6
            refine z_qload_n (pc := 28) (k0 := 2) E dX10_run_28 rfl rfl ?_
            obtain ⟨r7, S_8, S_9, S_10, h11, hf⟩ := kD4_e hf
            refine z_callV0 (pc := 29) (is := [0, 1, 2, 3]) (n := 1) (As := [va_rf x2]) (st := []) (st' := [.int r7]) (C2 := [wT aT (aH 200) ct S_8, wH aH ct S_9, wDp gG SD, wDh ct S_10]) E (c_X10_step (l := l) (G := G) (ct := ct) (aT := aT) (aH := aH) (gG := gG) h11) wv_X10_step wd_33_16 ⟨Nat.le_of_ble_eq_true rfl, Nat.le_of_ble_eq_true rfl, Nat.le_of_ble_eq_true rfl, Nat.le_of_ble_eq_true rfl⟩ rfl rfl rfl (by decide) rfl rfl (zrT (j := 0) rfl) rfl (Nat.le_of_ble_eq_true rfl) dX10_run_29 rfl rfl ?_
            refine z_pop (pc := 32) E dX10_run_32 rfl ?_
            obtain ⟨v12, e_v12, hf⟩ := kL_e hf
            refine z_iinc (pc := 33) (k0 := 4) (v := v12) (lv' := [(4, .int v12), (0, .ref (aT 200)), (1, va_rf x1), (2, va_rf x2), (3, .int x3)]) E dX10_run_33 rfl e_v12 (by decide) rfl ?_
            refine z_goto (pc := 36) (tgt := 3) E dX10_run_36 (by decide) ?_
            refine z_sub [1, 2, 3, 4, 0] (lv' := [(0, .ref (aT 200)), (1, va_rf x1), (2, va_rf x2), (3, .int x3), (4, .int v12)]) rfl ?_
            exact ih3 S_8 S_9 S_10 x1 x2 x3 v12 hf
          · have hf := kB_t hf c6
            refine z_qload_n (pc := 24) (k0 := 1) E dX10_run_24 rfl rfl ?_
            refine z_goto (pc := 25) (tgt := 29) E dX10_run_25 (by decide) ?_
            obtain ⟨r13, S_14, S_15, S_16, h17, hf⟩ := kD4_e hf
            refine z_callV0 (pc := 29) (is := [0, 1, 2, 3]) (n := 1) (As := [va_rf x1]) (st := []) (st' := [.int r13]) (C2 := [wT aT (aH 200) ct S_14, wH aH ct S_15, wDp gG SD, wDh ct S_16]) E (c_X10_step (l := l) (G := G) (ct := ct) (aT := aT) (aH := aH) (gG := gG) h17) wv_X10_step wd_33_16 ⟨Nat.le_of_ble_eq_true rfl, Nat.le_of_ble_eq_true rfl, Nat.le_of_ble_eq_true rfl, Nat.le_of_ble_eq_true rfl⟩ rfl rfl rfl (by decide) rfl rfl (zrT (j := 0) rfl) rfl (Nat.le_of_ble_eq_true rfl) dX10_run_29 rfl rfl ?_
            refine z_pop (pc := 32) E dX10_run_32 rfl ?_
            obtain ⟨v18, e_v18, hf⟩ := kL_e hf
            refine z_iinc (pc := 33) (k0 := 4) (v := v18) (lv' := [(4, .int v18), (0, .ref (aT 200)), (1, va_rf x1), (2, va_rf x2), (3, .int x3)]) E dX10_run_33 rfl e_v18 (by decide) rfl ?_
            refine z_goto (pc := 36) (tgt := 3) E dX10_run_36 (by decide) ?_
            refine z_sub [1, 2, 3, 4, 0] (lv' := [(0, .ref (aT 200)), (1, va_rf x1), (2, va_rf x2), (3, .int x3), (4, .int v18)]) rfl ?_
            exact ih3 S_14 S_15 S_16 x1 x2 x3 v18 hf
  unfold f_X10_run at hf
  refine z_iconst (pc := 0) (v := 0) E dX10_run_0 (by decide) ?_
  refine z_istore (pc := 1) (lv' := [(4, .int 0), (0, .ref (aT 200)), (1, va_rf a1), (2, va_rf a2), (3, .int a3)]) E dX10_run_1 (by decide) rfl ?_
  refine z_sub [1, 2, 3, 4, 0] (lv' := [(0, .ref (aT 200)), (1, va_rf a1), (2, va_rf a2), (3, .int a3), (4, .int 0)]) rfl ?_
  exact L3 N ST SH SE a1 a2 a3 0 hf
noncomputable def f_X10_sleepsAt (N : Nat) (ST : zTS) (SH : zHS) (SD : (List (Nat × zPS))) (SE : (List ((Nat → Nat) × zQS))) (a1 : Option Nat) (a2 : Option Nat) : Option (Int32 × zTS × zHS × ((List ((Nat → Nat) × zQS)))) := kD3 (f_X10_run N ST SH SD SE a1 a2 60) (fun S_1 S_2 S_3 => kC (f_X1_how S_2) (fun r5 => kB (r5 = 1) (some ((S_2.1 11), S_1, S_2, S_3)) (some ((-5), S_1, S_2, S_3))))
theorem wv_X10_sleepsAt : zWV RX10 yX10_sleepsAt cX10_sleepsAt 3 (some .int) 2 := ⟨wd_34_22, wd_34_23, wd_1_20, wd_35_0, by decide +kernel⟩
def rm_X10_sleepsAt : Room := { frames := 6, cells := 0, slots := 0, locals := 171 }
set_option maxHeartbeats 4000000 in
set_option maxRecDepth 100000 in
theorem c_X10_sleepsAt {l : Launch} {G : va_G} {ct : Nat → ClassId} {aT : Nat → Nat} {aH : Nat → Nat} {gG : Nat} {N : Nat} {ST : zTS} {SH : zHS} {SD : (List (Nat × zPS))} {SE : (List ((Nat → Nat) × zQS))} {a1 : Option Nat} {a2 : Option Nat} {r0 : Int32} {OT : zTS} {OH : zHS} {OE : (List ((Nat → Nat) × zQS))} (hf : f_X10_sleepsAt N ST SH SD SE a1 a2 = some (r0, OT, OH, OE)) : zC l yX10_sleepsAt cX10_sleepsAt 3 (some .int) rm_X10_sleepsAt G ct [.ref (aT 200), va_rf a1, va_rf a2] [wT aT (aH 200) ct ST, wH aH ct SH, wDp gG SD, wDh ct SE] [wT aT (aH 200) ct OT, wH aH ct OH, wDp gG SD, wDh ct OE] (some (.int r0)) 0 0 := by
  refine z_enter (own := RX10) (lv := [(0, .ref (aT 200)), (1, va_rf a1), (2, va_rf a2)]) (by decide) rfl (by simp [lg_sl, zcat, zcr, zci, zcl]) (by simp [lv_args, zcat, zcr, zci, zcl]) ?_
  intro p e s m args below meth c A E hr hnm
  unfold f_X10_sleepsAt at hf
  refine z_aload_n (pc := 0) (k0 := 0) E dX10_sleepsAt_0 rfl rfl ?_
  refine z_qload_n (pc := 1) (k0 := 1) E dX10_sleepsAt_1 rfl rfl ?_
  refine z_qload_n (pc := 2) (k0 := 2) E dX10_sleepsAt_2 rfl rfl ?_
  refine z_bipush (pc := 3) (v := 60) E dX10_sleepsAt_3 (by decide) ?_
  obtain ⟨S_1, S_2, S_3, h4, hf⟩ := kD3_e hf
  refine z_callV0 (pc := 5) (is := [0, 1, 2, 3]) (n := 3) (As := [va_rf a1, va_rf a2, .int 60]) (st := []) (st' := []) (C2 := [wT aT (aH 200) ct S_1, wH aH ct S_2, wDp gG SD, wDh ct S_3]) E (c_X10_run (l := l) (G := G) (ct := ct) (aT := aT) (aH := aH) (gG := gG) h4) wv_X10_run wd_35_2 ⟨Nat.le_of_ble_eq_true rfl, Nat.le_of_ble_eq_true rfl, Nat.le_of_ble_eq_true rfl, Nat.le_of_ble_eq_true rfl⟩ rfl rfl rfl (by decide) rfl rfl (zrT (j := 0) rfl) rfl (Nat.le_of_ble_eq_true rfl) dX10_sleepsAt_5 rfl rfl ?_
  refine z_aload_n (pc := 8) (k0 := 0) E dX10_sleepsAt_8 rfl rfl ?_
  refine gT_0 (pc := 9) (i := 0) E rfl wd_3_5 dX10_sleepsAt_9 ?_
  obtain ⟨r5, h6, hf⟩ := kC_e hf
  refine z_callV0 (pc := 12) (is := [1]) (n := 0) (As := []) (st := []) (st' := [.int r5]) (C2 := [wT aT (aH 200) ct S_1, wH aH ct S_2, wDp gG SD, wDh ct S_3]) E (c_X1_how (l := l) (G := G) (ct := ct) (aH := aH) h6) wv_X1_how wd_33_15 ⟨Nat.le_of_ble_eq_true rfl, Nat.le_of_ble_eq_true rfl, Nat.le_of_ble_eq_true rfl, Nat.le_of_ble_eq_true rfl⟩ rfl rfl rfl (by decide) rfl rfl (zrH (j := 0) rfl) rfl (Nat.le_of_ble_eq_true rfl) dX10_sleepsAt_12 rfl rfl ?_
  refine z_iconst (pc := 15) (v := 1) E dX10_sleepsAt_15 (by decide) ?_
  refine z_icmp_ne (pc := 16) (tgt := 29) E dX10_sleepsAt_16 (by decide) (fun c7 => ?_) (fun c7 => ?_)
  · have hf := kB_f hf c7
    refine z_bipush (pc := 29) (v := (-5)) E dX10_sleepsAt_29 (by decide) ?_
    cases hf
    exact z_iret E hr dX10_sleepsAt_31
  · have hf := kB_t hf c7
    refine z_aload_n (pc := 19) (k0 := 0) E dX10_sleepsAt_19 rfl rfl ?_
    refine gT_0 (pc := 20) (i := 0) E rfl wd_3_5 dX10_sleepsAt_20 ?_
    refine gH_11 (pc := 23) (i := 1) E rfl wd_35_1 dX10_sleepsAt_23 ?_
    refine z_goto (pc := 26) (tgt := 31) E dX10_sleepsAt_26 (by decide) ?_
    cases hf
    exact z_iret E hr dX10_sleepsAt_31
noncomputable def f_X11_thing (SX : zRS) (SN : zHS) (SK : zHS) (ST : zTS) (SH : zHS) (SR : zRS) (SV : (Nat → Nat → Int64)) (SG : (Nat → Int32)) (SY : (Nat → Int32)) (SZ : (Nat → Int32)) (SD : (List (Nat × zPS))) (SE : (List ((Nat → Nat) × zQS))) (a1 : Int32) (a2 : Int32) : Option (Int32 × zHS) := kB (a1 < 1) (some ((-2), SN)) (kB (20 < a1) (some ((-2), SN)) (kB (a2 < 0) (some ((-2), SN)) (kB (a2 ≤ 9) (kB ((SN.1 7) < 7) (kL ((SN.1 7) + 1) (fun v6 => kL (hSI SN 7 v6) (fun SN_7 => kO (¬ ((SN.1 7) < 0 ∨ 7 ≤ Int32.toNatClampNeg (SN.1 7))) (kL (hSA SN_7 0 (upd (SN_7.2.1 0) (Int32.toNatClampNeg (SN.1 7)) a1)) (fun SN_9 => kO (¬ ((SN.1 7) < 0 ∨ 7 ≤ Int32.toNatClampNeg (SN.1 7))) (kL (hSA SN_9 1 (upd (SN_9.2.1 1) (Int32.toNatClampNeg (SN.1 7)) a2)) (fun SN_11 => kO (¬ ((SN.1 7) < 0 ∨ 7 ≤ Int32.toNatClampNeg (SN.1 7))) (kL (hSA SN_11 2 (upd (SN_11.2.1 2) (Int32.toNatClampNeg (SN.1 7)) 0)) (fun SN_13 => some ((SN.1 7), SN_13)))))))))) (some ((-4), SN))) (some ((-2), SN)))))
theorem wv_X11_thing : zWV RX11 yX11_thing cX11_thing 4 (some .int) 2 := ⟨wd_7_0, wd_7_1, wd_1_2, wd_7_2, by decide +kernel⟩
def rm_X11_thing : Room := { frames := 0, cells := 0, slots := 0, locals := 0 }
set_option maxHeartbeats 4000000 in
set_option maxRecDepth 100000 in
theorem c_X11_thing {l : Launch} {G : va_G} {ct : Nat → ClassId} {aX : Nat → Nat} {aN : Nat → Nat} {aK : Nat → Nat} {aT : Nat → Nat} {aH : Nat → Nat} {aR : Nat → Nat} {aV : Nat → Nat} {gG : Nat} {gY : Nat} {gZ : Nat} {SX : zRS} {SN : zHS} {SK : zHS} {ST : zTS} {SH : zHS} {SR : zRS} {SV : (Nat → Nat → Int64)} {SG : (Nat → Int32)} {SY : (Nat → Int32)} {SZ : (Nat → Int32)} {SD : (List (Nat × zPS))} {SE : (List ((Nat → Nat) × zQS))} {a1 : Int32} {a2 : Int32} {r0 : Int32} {ON : zHS} (hf : f_X11_thing SX SN SK ST SH SR SV SG SY SZ SD SE a1 a2 = some (r0, ON)) : zC l yX11_thing cX11_thing 4 (some .int) rm_X11_thing G ct [.ref (aX 200), .int a1, .int a2] [wX aX (aN 200) (aK 200) (aT 200) (aR 200) (aV 6) gG gY gZ ct SX, wH aN ct SN, wH aK ct SK, wT aT (aH 200) ct ST, wH aH ct SH, wR aR ct SR, wV aV ct SV, wA gG 21 ct SG, wA gY 5 ct SY, wA gZ 5 ct SZ, wDp gG SD, wDh ct SE] [wX aX (aN 200) (aK 200) (aT 200) (aR 200) (aV 6) gG gY gZ ct SX, wH aN ct ON, wH aK ct SK, wT aT (aH 200) ct ST, wH aH ct SH, wR aR ct SR, wV aV ct SV, wA gG 21 ct SG, wA gY 5 ct SY, wA gZ 5 ct SZ, wDp gG SD, wDh ct SE] (some (.int r0)) 0 0 := by
  refine z_enter (own := RX11) (lv := [(0, .ref (aX 200)), (1, .int a1), (2, .int a2)]) (by decide) rfl (Nat.le_of_ble_eq_true rfl) rfl ?_
  intro p e s m args below meth c A E hr hnm
  unfold f_X11_thing at hf
  refine z_iload_n (pc := 0) (k0 := 1) E dX11_thing_0 rfl rfl ?_
  refine z_iconst (pc := 1) (v := 1) E dX11_thing_1 (by decide) ?_
  refine z_icmp_lt (pc := 2) (tgt := 21) E dX11_thing_2 (by decide) (fun c1 => ?_) (fun c1 => ?_)
  · have hf := kB_t hf c1
    refine z_bipush (pc := 21) (v := (-2)) E dX11_thing_21 (by decide) ?_
    cases hf
    exact z_iret E hr dX11_thing_23
  · have hf := kB_f hf c1
    refine z_iload_n (pc := 5) (k0 := 1) E dX11_thing_5 rfl rfl ?_
    refine z_bipush (pc := 6) (v := 20) E dX11_thing_6 (by decide) ?_
    refine z_icmp_gt (pc := 8) (tgt := 21) E dX11_thing_8 (by decide) (fun c2 => ?_) (fun c2 => ?_)
    · have hf := kB_t hf c2
      refine z_bipush (pc := 21) (v := (-2)) E dX11_thing_21 (by decide) ?_
      cases hf
      exact z_iret E hr dX11_thing_23
    · have hf := kB_f hf c2
      refine z_iload_n (pc := 11) (k0 := 2) E dX11_thing_11 rfl rfl ?_
      refine z_if_lt (pc := 12) (tgt := 21) E dX11_thing_12 (by decide) (fun c3 => ?_) (fun c3 => ?_)
      · have hf := kB_t hf c3
        refine z_bipush (pc := 21) (v := (-2)) E dX11_thing_21 (by decide) ?_
        cases hf
        exact z_iret E hr dX11_thing_23
      · have hf := kB_f hf c3
        refine z_iload_n (pc := 15) (k0 := 2) E dX11_thing_15 rfl rfl ?_
        refine z_bipush (pc := 16) (v := 9) E dX11_thing_16 (by decide) ?_
        refine z_icmp_le (pc := 18) (tgt := 24) E dX11_thing_18 (by decide) (fun c4 => ?_) (fun c4 => ?_)
        · have hf := kB_t hf c4
          refine z_aload_n (pc := 24) (k0 := 0) E dX11_thing_24 rfl rfl ?_
          refine gX_0 (pc := 25) (i := 0) E rfl wd_1_16 dX11_thing_25 ?_
          refine gH_7 (pc := 28) (i := 1) E rfl wd_7_3 dX11_thing_28 ?_
          refine z_bipush (pc := 31) (v := 7) E dX11_thing_31 (by decide) ?_
          refine z_icmp_lt (pc := 33) (tgt := 39) E dX11_thing_33 (by decide) (fun c5 => ?_) (fun c5 => ?_)
          · have hf := kB_t hf c5
            refine z_aload_n (pc := 39) (k0 := 0) E dX11_thing_39 rfl rfl ?_
            refine gX_0 (pc := 40) (i := 0) E rfl wd_1_16 dX11_thing_40 ?_
            refine z_dup (pc := 43) E dX11_thing_43 rfl ?_
            refine gH_7 (pc := 44) (i := 1) E rfl wd_7_3 dX11_thing_44 ?_
            refine z_dup_x1 (pc := 47) E dX11_thing_47 rfl rfl ?_
            refine z_iconst (pc := 48) (v := 1) E dX11_thing_48 (by decide) ?_
            obtain ⟨v6, e_v6, hf⟩ := kL_e hf
            refine z_iadd (pc := 49) (v := v6) E dX11_thing_49 e_v6 ?_
            obtain ⟨SN_7, e_SN_7, hf⟩ := kL_e hf
            refine pH_7 (pc := 50) (i := 1) (S1 := SN_7) E rfl e_SN_7 wd_7_3 dX11_thing_50 ?_
            show zJ p l e rm_X11_thing s m args below meth c (zQ G ct (some (.int r0)) [wX aX (aN 200) (aK 200) (aT 200) (aR 200) (aV 6) gG gY gZ ct SX, wH aN ct ON, wH aK ct SK, wT aT (aH 200) ct ST, wH aH ct SH, wR aR ct SR, wV aV ct SV, wA gG 21 ct SG, wA gY 5 ct SY, wA gZ 5 ct SZ, wDp gG SD, wDh ct SE] A below args s 0 0) A G 4 0 0 [wX aX (aN 200) (aK 200) (aT 200) (aR 200) (aV 6) gG gY gZ ct SX, wH aN ct SN_7, wH aK ct SK, wT aT (aH 200) ct ST, wH aH ct SH, wR aR ct SR, wV aV ct SV, wA gG 21 ct SG, wA gY 5 ct SY, wA gZ 5 ct SZ, wDp gG SD, wDh ct SE] [(0, .ref (aX 200)), (1, .int a1), (2, .int a2)] 53 [.int (SN.1 7)]
            refine z_istore_n (pc := 53) (lv' := [(3, .int (SN.1 7)), (0, .ref (aX 200)), (1, .int a1), (2, .int a2)]) E dX11_thing_53 rfl (by decide) rfl ?_
            refine z_aload_n (pc := 54) (k0 := 1) E dX11_thing_54 rfl rfl ?_
            refine gX_0 (pc := 55) (i := 0) E rfl wd_1_16 dX11_thing_55 ?_
            refine gH_0 (pc := 58) (i := 1) E rfl wd_7_4 dX11_thing_58 ?_
            refine z_iload_n (pc := 61) (k0 := 0) E dX11_thing_61 rfl rfl ?_
            refine z_iload_n (pc := 62) (k0 := 2) E dX11_thing_62 rfl rfl ?_
            obtain ⟨c8, hf⟩ := kO_e hf
            obtain ⟨SN_9, e_SN_9, hf⟩ := kL_e hf
            refine sH_0 (pc := 63) (i := 1) (S1 := SN_9) E rfl c8 e_SN_9 dX11_thing_63 ?_
            show zJ p l e rm_X11_thing s m args below meth c (zQ G ct (some (.int r0)) [wX aX (aN 200) (aK 200) (aT 200) (aR 200) (aV 6) gG gY gZ ct SX, wH aN ct ON, wH aK ct SK, wT aT (aH 200) ct ST, wH aH ct SH, wR aR ct SR, wV aV ct SV, wA gG 21 ct SG, wA gY 5 ct SY, wA gZ 5 ct SZ, wDp gG SD, wDh ct SE] A below args s 0 0) A G 4 0 0 [wX aX (aN 200) (aK 200) (aT 200) (aR 200) (aV 6) gG gY gZ ct SX, wH aN ct SN_9, wH aK ct SK, wT aT (aH 200) ct ST, wH aH ct SH, wR aR ct SR, wV aV ct SV, wA gG 21 ct SG, wA gY 5 ct SY, wA gZ 5 ct SZ, wDp gG SD, wDh ct SE] [(3, .int (SN.1 7)), (0, .ref (aX 200)), (1, .int a1), (2, .int a2)] 64 []
            refine z_aload_n (pc := 64) (k0 := 1) E dX11_thing_64 rfl rfl ?_
            refine gX_0 (pc := 65) (i := 0) E rfl wd_1_16 dX11_thing_65 ?_
            refine gH_1 (pc := 68) (i := 1) E rfl wd_7_5 dX11_thing_68 ?_
            refine z_iload_n (pc := 71) (k0 := 0) E dX11_thing_71 rfl rfl ?_
            refine z_iload_n (pc := 72) (k0 := 3) E dX11_thing_72 rfl rfl ?_
            obtain ⟨c10, hf⟩ := kO_e hf
            obtain ⟨SN_11, e_SN_11, hf⟩ := kL_e hf
            refine sH_1 (pc := 73) (i := 1) (S1 := SN_11) E rfl c10 e_SN_11 dX11_thing_73 ?_
            show zJ p l e rm_X11_thing s m args below meth c (zQ G ct (some (.int r0)) [wX aX (aN 200) (aK 200) (aT 200) (aR 200) (aV 6) gG gY gZ ct SX, wH aN ct ON, wH aK ct SK, wT aT (aH 200) ct ST, wH aH ct SH, wR aR ct SR, wV aV ct SV, wA gG 21 ct SG, wA gY 5 ct SY, wA gZ 5 ct SZ, wDp gG SD, wDh ct SE] A below args s 0 0) A G 4 0 0 [wX aX (aN 200) (aK 200) (aT 200) (aR 200) (aV 6) gG gY gZ ct SX, wH aN ct SN_11, wH aK ct SK, wT aT (aH 200) ct ST, wH aH ct SH, wR aR ct SR, wV aV ct SV, wA gG 21 ct SG, wA gY 5 ct SY, wA gZ 5 ct SZ, wDp gG SD, wDh ct SE] [(3, .int (SN.1 7)), (0, .ref (aX 200)), (1, .int a1), (2, .int a2)] 74 []
            refine z_aload_n (pc := 74) (k0 := 1) E dX11_thing_74 rfl rfl ?_
            refine gX_0 (pc := 75) (i := 0) E rfl wd_1_16 dX11_thing_75 ?_
            refine gH_2 (pc := 78) (i := 1) E rfl wd_7_6 dX11_thing_78 ?_
            refine z_iload_n (pc := 81) (k0 := 0) E dX11_thing_81 rfl rfl ?_
            refine z_iconst (pc := 82) (v := 0) E dX11_thing_82 (by decide) ?_
            obtain ⟨c12, hf⟩ := kO_e hf
            obtain ⟨SN_13, e_SN_13, hf⟩ := kL_e hf
            refine sH_2 (pc := 83) (i := 1) (S1 := SN_13) E rfl c12 e_SN_13 dX11_thing_83 ?_
            show zJ p l e rm_X11_thing s m args below meth c (zQ G ct (some (.int r0)) [wX aX (aN 200) (aK 200) (aT 200) (aR 200) (aV 6) gG gY gZ ct SX, wH aN ct ON, wH aK ct SK, wT aT (aH 200) ct ST, wH aH ct SH, wR aR ct SR, wV aV ct SV, wA gG 21 ct SG, wA gY 5 ct SY, wA gZ 5 ct SZ, wDp gG SD, wDh ct SE] A below args s 0 0) A G 4 0 0 [wX aX (aN 200) (aK 200) (aT 200) (aR 200) (aV 6) gG gY gZ ct SX, wH aN ct SN_13, wH aK ct SK, wT aT (aH 200) ct ST, wH aH ct SH, wR aR ct SR, wV aV ct SV, wA gG 21 ct SG, wA gY 5 ct SY, wA gZ 5 ct SZ, wDp gG SD, wDh ct SE] [(3, .int (SN.1 7)), (0, .ref (aX 200)), (1, .int a1), (2, .int a2)] 84 []
            refine z_iload_n (pc := 84) (k0 := 0) E dX11_thing_84 rfl rfl ?_
            cases hf
            exact z_iret E hr dX11_thing_85
          · have hf := kB_f hf c5
            refine z_bipush (pc := 36) (v := (-4)) E dX11_thing_36 (by decide) ?_
            cases hf
            exact z_iret E hr dX11_thing_38
        · have hf := kB_f hf c4
          refine z_bipush (pc := 21) (v := (-2)) E dX11_thing_21 (by decide) ?_
          cases hf
          exact z_iret E hr dX11_thing_23
