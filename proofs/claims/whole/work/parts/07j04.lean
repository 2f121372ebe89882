noncomputable def f_X5_reads_b52 (N : Nat) (SR : zRS) (x1 : Int32) : Option (Int32 × zRS) := kB (x1 = 0) (some (0, SR)) (kB ((SR.1 6) = (SR.1 5)) (some (1, SR)) (some (0, SR)))
noncomputable def f_X5_reads_l22 (N : Nat) : Nat → zRS → Int32 → Int32 → Option (Int32 × zRS) := fun n => Nat.rec (motive := fun _ => zRS → Int32 → Int32 → Option (Int32 × zRS)) (fun _ _ _ => none) (fun _ ih SR x1 x2 => kB (10 ≤ x2) (f_X5_reads_b52 N SR x1) (kB (x1 = 0) (f_X5_reads_b52 N SR x1) (kD (f_X5_takes SR 59) (fun r9 S_10 => kB (r9 = 0) (f_X5_reads_b52 N S_10 x1) (kD (f_X5_clause N S_10) (fun r13 S_14 => kL (x2 + 1) (fun v16 => ih S_14 r13 v16))))))) n
theorem f_X5_reads_l22_z (N : Nat) (SR : zRS) (x1 : Int32) (x2 : Int32) : f_X5_reads_l22 N 0 SR x1 x2 = none := rfl
theorem f_X5_reads_l22_s (N : Nat) (n : Nat) (SR : zRS) (x1 : Int32) (x2 : Int32) : f_X5_reads_l22 N (n + 1) SR x1 x2 = kB (10 ≤ x2) (f_X5_reads_b52 N SR x1) (kB (x1 = 0) (f_X5_reads_b52 N SR x1) (kD (f_X5_takes SR 59) (fun r9 S_10 => kB (r9 = 0) (f_X5_reads_b52 N S_10 x1) (kD (f_X5_clause N S_10) (fun r13 S_14 => kL (x2 + 1) (fun v16 => (f_X5_reads_l22 N n) S_14 r13 v16)))))) := rfl
noncomputable def f_X5_reads (N : Nat) (SR : zRS) : Option (Int32 × zRS) := kL (rSI SR 6 0) (fun SR_1 => kL (rSI SR_1 7 0) (fun SR_2 => kL (rSI SR_2 8 0) (fun SR_3 => kD (f_X5_clause N SR_3) (fun r4 S_5 => f_X5_reads_l22 N N S_5 r4 1))))
theorem wv_X5_reads : zWV RX5 yX5_reads cX5_reads 3 (some .boolean) 0 := ⟨wd_18_16, wd_18_17, wd_2_0, wd_18_18, by decide +kernel⟩
def rm_X5_reads : Room := { frames := 22, cells := 0, slots := 0, locals := 582 }
set_option maxHeartbeats 4000000 in
set_option maxRecDepth 100000 in
theorem c_X5_reads {adK adV : Nat → Nat} {tA : Nat} {l : Launch} {G : va_G} {ct : Nat → ClassId} {aR : Nat → Nat} {N : Nat} {SR : zRS} {r0 : Int32} {OR : zRS} (hf : f_X5_reads N SR = some (r0, OR)) : zCE adK adV tA l yX5_reads cX5_reads 3 (some .boolean) rm_X5_reads G ct [.ref (aR 200)] [wR aR ct SR] [wR aR ct OR] (some (.int r0)) 0 0 := by
  refine z_enterE (own := RX5) (lv := [(0, .ref (aR 200))]) (by decide) rfl (Nat.le_of_ble_eq_true rfl) rfl ?_
  intro p e s m args below meth c A E hr hnm hEnv
  have B52 : ∀ (SR : zRS) (x1 : Int32), f_X5_reads_b52 N SR x1 = some (r0, OR) → zJ p l e rm_X5_reads s m args below meth c (zQ G ct (some (.int r0)) [wR aR ct OR] A below args s 0 0) A G 3 0 0 [wR aR ct SR] [(0, .ref (aR 200)), (1, .int x1)] 52 [] := by
    intro SR x1 hf
    unfold f_X5_reads_b52 at hf
    refine z_iload_n (pc := 52) (k0 := 1) E dX5_reads_52 rfl rfl ?_
    refine z_if_eq (pc := 53) (tgt := 71) E dX5_reads_53 (by decide) (fun c17 => ?_) (fun c17 => ?_)
    · have hf := kB_t hf c17
      refine z_iconst (pc := 71) (v := 0) E dX5_reads_71 (by decide) ?_
      cases hf
      exact z_zret E hr (by decide) dX5_reads_72
    · have hf := kB_f hf c17
      refine z_aload_n (pc := 56) (k0 := 0) E dX5_reads_56 rfl rfl ?_
      refine gR_6 (pc := 57) (i := 0) E rfl wd_18_19 dX5_reads_57 ?_
      refine z_aload_n (pc := 60) (k0 := 0) E dX5_reads_60 rfl rfl ?_
      refine gR_5 (pc := 61) (i := 0) E rfl wd_18_22 dX5_reads_61 ?_
      refine z_icmp_ne (pc := 64) (tgt := 71) E dX5_reads_64 (by decide) (fun c18 => ?_) (fun c18 => ?_)
      · have hf := kB_f hf c18
        refine z_iconst (pc := 71) (v := 0) E dX5_reads_71 (by decide) ?_
        cases hf
        exact z_zret E hr (by decide) dX5_reads_72
      · have hf := kB_t hf c18
        refine z_iconst (pc := 67) (v := 1) E dX5_reads_67 (by decide) ?_
        refine z_goto (pc := 68) (tgt := 72) E dX5_reads_68 (by decide) ?_
        cases hf
        exact z_zret E hr (by decide) dX5_reads_72
  have L22 : ∀ (n22 : Nat) (SR : zRS) (x1 : Int32) (x2 : Int32), f_X5_reads_l22 N n22 SR x1 x2 = some (r0, OR) → zJ p l e rm_X5_reads s m args below meth c (zQ G ct (some (.int r0)) [wR aR ct OR] A below args s 0 0) A G 3 0 0 [wR aR ct SR] [(0, .ref (aR 200)), (1, .int x1), (2, .int x2)] 22 [] := by
    intro n22
    induction n22 with
    | zero =>
      intro SR x1 x2 hf
      rw [f_X5_reads_l22_z] at hf
      cases hf
    | succ n22 ih22 =>
      intro SR x1 x2 hf
      rw [f_X5_reads_l22_s] at hf
      refine z_iload_n (pc := 22) (k0 := 2) E dX5_reads_22 rfl rfl ?_
      refine z_bipush (pc := 23) (v := 10) E dX5_reads_23 (by decide) ?_
      refine z_icmp_ge (pc := 25) (tgt := 52) E dX5_reads_25 (by decide) (fun c7 => ?_) (fun c7 => ?_)
      · have hf := kB_t hf c7
        refine z_sub [0, 1] (lv' := [(0, .ref (aR 200)), (1, .int x1)]) rfl ?_
        exact B52 SR x1 hf
      · have hf := kB_f hf c7
        refine z_iload_n (pc := 28) (k0 := 1) E dX5_reads_28 rfl rfl ?_
        refine z_if_eq (pc := 29) (tgt := 52) E dX5_reads_29 (by decide) (fun c8 => ?_) (fun c8 => ?_)
        · have hf := kB_t hf c8
          refine z_sub [0, 1] (lv' := [(0, .ref (aR 200)), (1, .int x1)]) rfl ?_
          exact B52 SR x1 hf
        · have hf := kB_f hf c8
          refine z_aload_n (pc := 32) (k0 := 0) E dX5_reads_32 rfl rfl ?_
          refine z_bipush (pc := 33) (v := 59) E dX5_reads_33 (by decide) ?_
          obtain ⟨r9, S_10, h11, hf⟩ := kD_e hf
          refine z_callV0 (pc := 35) (is := [0]) (n := 1) (As := [.int 59]) (st := []) (st' := [.int r9]) (C2 := [wR aR ct S_10]) E (c_X5_takes (l := l) (G := G) (ct := ct) (aR := aR) h11) wv_X5_takes wd_21_0 ⟨Nat.le_of_ble_eq_true rfl, Nat.le_of_ble_eq_true rfl, Nat.le_of_ble_eq_true rfl, Nat.le_of_ble_eq_true rfl⟩ rfl rfl rfl (by decide) rfl rfl (zrR (j := 0) rfl) rfl (Nat.le_of_ble_eq_true rfl) dX5_reads_35 rfl rfl ?_
          refine z_if_eq (pc := 38) (tgt := 52) E dX5_reads_38 (by decide) (fun c12 => ?_) (fun c12 => ?_)
          · have hf := kB_t hf c12
            refine z_sub [0, 1] (lv' := [(0, .ref (aR 200)), (1, .int x1)]) rfl ?_
            exact B52 S_10 x1 hf
          · have hf := kB_f hf c12
            refine z_aload_n (pc := 41) (k0 := 0) E dX5_reads_41 rfl rfl ?_
            obtain ⟨r13, S_14, h15, hf⟩ := kD_e hf
            refine z_callVE (pc := 42) (is := [0]) (n := 0) (As := []) (st := []) (st' := [.int r13]) (C2 := [wR aR ct S_14]) E hEnv (c_X5_clause (adK := adK) (adV := adV) (tA := tA) (l := l) (G := G) (ct := ct) (aR := aR) h15) wv_X5_clause wd_18_23 ⟨Nat.le_of_ble_eq_true rfl, Nat.le_of_ble_eq_true rfl, Nat.le_of_ble_eq_true rfl, Nat.le_of_ble_eq_true rfl⟩ rfl rfl rfl (by decide) rfl rfl (z_rdr (i := 0) E rfl) rfl (Nat.le_of_ble_eq_true rfl) dX5_reads_42 rfl rfl ?_
            refine z_istore_n (pc := 45) (lv' := [(1, .int r13), (0, .ref (aR 200)), (2, .int x2)]) E dX5_reads_45 rfl (by decide) rfl ?_
            obtain ⟨v16, e_v16, hf⟩ := kL_e hf
            refine z_iinc (pc := 46) (k0 := 2) (v := v16) (lv' := [(2, .int v16), (1, .int r13), (0, .ref (aR 200))]) E dX5_reads_46 rfl e_v16 (by decide) rfl ?_
            refine z_goto (pc := 49) (tgt := 22) E dX5_reads_49 (by decide) ?_
            refine z_sub [2, 1, 0] (lv' := [(0, .ref (aR 200)), (1, .int r13), (2, .int v16)]) rfl ?_
            exact ih22 S_14 r13 v16 hf
  unfold f_X5_reads at hf
  refine z_aload_n (pc := 0) (k0 := 0) E dX5_reads_0 rfl rfl ?_
  refine z_iconst (pc := 1) (v := 0) E dX5_reads_1 (by decide) ?_
  obtain ⟨SR_1, e_SR_1, hf⟩ := kL_e hf
  refine pR_6 (pc := 2) (i := 0) (S1 := SR_1) E rfl e_SR_1 wd_18_19 dX5_reads_2 ?_
  show zJ p l e rm_X5_reads s m args below meth c (zQ G ct (some (.int r0)) [wR aR ct OR] A below args s 0 0) A G 3 0 0 [wR aR ct SR_1] [(0, .ref (aR 200))] 5 []
  refine z_aload_n (pc := 5) (k0 := 0) E dX5_reads_5 rfl rfl ?_
  refine z_iconst (pc := 6) (v := 0) E dX5_reads_6 (by decide) ?_
  obtain ⟨SR_2, e_SR_2, hf⟩ := kL_e hf
  refine pR_7 (pc := 7) (i := 0) (S1 := SR_2) E rfl e_SR_2 wd_18_20 dX5_reads_7 ?_
  show zJ p l e rm_X5_reads s m args below meth c (zQ G ct (some (.int r0)) [wR aR ct OR] A below args s 0 0) A G 3 0 0 [wR aR ct SR_2] [(0, .ref (aR 200))] 10 []
  refine z_aload_n (pc := 10) (k0 := 0) E dX5_reads_10 rfl rfl ?_
  refine z_iconst (pc := 11) (v := 0) E dX5_reads_11 (by decide) ?_
  obtain ⟨SR_3, e_SR_3, hf⟩ := kL_e hf
  refine pR_8 (pc := 12) (i := 0) (S1 := SR_3) E rfl e_SR_3 wd_18_21 dX5_reads_12 ?_
  show zJ p l e rm_X5_reads s m args below meth c (zQ G ct (some (.int r0)) [wR aR ct OR] A below args s 0 0) A G 3 0 0 [wR aR ct SR_3] [(0, .ref (aR 200))] 15 []
  refine z_aload_n (pc := 15) (k0 := 0) E dX5_reads_15 rfl rfl ?_
  obtain ⟨r4, S_5, h6, hf⟩ := kD_e hf
  refine z_callVE (pc := 16) (is := [0]) (n := 0) (As := []) (st := []) (st' := [.int r4]) (C2 := [wR aR ct S_5]) E hEnv (c_X5_clause (adK := adK) (adV := adV) (tA := tA) (l := l) (G := G) (ct := ct) (aR := aR) h6) wv_X5_clause wd_18_23 ⟨Nat.le_of_ble_eq_true rfl, Nat.le_of_ble_eq_true rfl, Nat.le_of_ble_eq_true rfl, Nat.le_of_ble_eq_true rfl⟩ rfl rfl rfl (by decide) rfl rfl (z_rdr (i := 0) E rfl) rfl (Nat.le_of_ble_eq_true rfl) dX5_reads_16 rfl rfl ?_
  refine z_istore_n (pc := 19) (lv' := [(1, .int r4), (0, .ref (aR 200))]) E dX5_reads_19 rfl (by decide) rfl ?_
  refine z_iconst (pc := 20) (v := 1) E dX5_reads_20 (by decide) ?_
  refine z_istore_n (pc := 21) (lv' := [(2, .int 1), (1, .int r4), (0, .ref (aR 200))]) E dX5_reads_21 rfl (by decide) rfl ?_
  refine z_sub [2, 1, 0] (lv' := [(0, .ref (aR 200)), (1, .int r4), (2, .int 1)]) rfl ?_
  exact L22 N S_5 r4 1 hf
