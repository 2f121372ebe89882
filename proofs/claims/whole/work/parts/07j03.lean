noncomputable def f_X5_every_v1_l8 (N : Nat) : Nat → zRS → Int32 → Int32 → Int32 → Option (Int32 × zRS) := fun n => Nat.rec (motive := fun _ => zRS → Int32 → Int32 → Int32 → Option (Int32 × zRS)) (fun _ _ _ _ => none) (fun _ ih SR x1 x2 x3 => kB (100 ≤ x3) (kO (x2 = 0 ∨ x2 = 1) (some (x2, SR))) (kB (x2 = 0) (kO (x2 = 0 ∨ x2 = 1) (some (x2, SR))) (kD (f_X5_takes SR 38) (fun r8 S_9 => kB (r8 = 0) (kO (x2 = 0 ∨ x2 = 1) (some (x2, S_9))) (kD (f_X5_factor_v1 N S_9 x1) (fun r13 S_14 => kB (r13 = 0) (kL (x3 + 1) (fun v17 => ih S_14 x1 0 v17)) (kD (f_X5_puts S_14 2) (fun r18 S_19 => kB (r18 = 0) (kL (x3 + 1) (fun v22 => ih S_19 x1 0 v22)) (kL (x3 + 1) (fun v23 => ih S_19 x1 1 v23)))))))))) n
theorem f_X5_every_v1_l8_z (N : Nat) (SR : zRS) (x1 : Int32) (x2 : Int32) (x3 : Int32) : f_X5_every_v1_l8 N 0 SR x1 x2 x3 = none := rfl
theorem f_X5_every_v1_l8_s (N : Nat) (n : Nat) (SR : zRS) (x1 : Int32) (x2 : Int32) (x3 : Int32) : f_X5_every_v1_l8 N (n + 1) SR x1 x2 x3 = kB (100 ≤ x3) (kO (x2 = 0 ∨ x2 = 1) (some (x2, SR))) (kB (x2 = 0) (kO (x2 = 0 ∨ x2 = 1) (some (x2, SR))) (kD (f_X5_takes SR 38) (fun r8 S_9 => kB (r8 = 0) (kO (x2 = 0 ∨ x2 = 1) (some (x2, S_9))) (kD (f_X5_factor_v1 N S_9 x1) (fun r13 S_14 => kB (r13 = 0) (kL (x3 + 1) (fun v17 => (f_X5_every_v1_l8 N n) S_14 x1 0 v17)) (kD (f_X5_puts S_14 2) (fun r18 S_19 => kB (r18 = 0) (kL (x3 + 1) (fun v22 => (f_X5_every_v1_l8 N n) S_19 x1 0 v22)) (kL (x3 + 1) (fun v23 => (f_X5_every_v1_l8 N n) S_19 x1 1 v23))))))))) := rfl
noncomputable def f_X5_every_v1 (N : Nat) (SR : zRS) (a1 : Int32) : Option (Int32 × zRS) := kD (f_X5_factor_v1 N SR a1) (fun r1 S_2 => f_X5_every_v1_l8 N N S_2 a1 r1 0)
def rm_X5_every_v1 : Room := { frames := 16, cells := 0, slots := 0, locals := 444 }
set_option maxHeartbeats 4000000 in
set_option maxRecDepth 100000 in
theorem c_X5_every_v1 {adK adV : Nat → Nat} {tA : Nat} {l : Launch} {G : va_G} {ct : Nat → ClassId} {aR : Nat → Nat} {N : Nat} {SR : zRS} {a1 : Int32} {r0 : Int32} {OR : zRS} (hf : f_X5_every_v1 N SR a1 = some (r0, OR)) : zCE adK adV tA l yX5_every cX5_every 4 (some .boolean) rm_X5_every_v1 G ct [.ref (aR 200), .int a1] [wR aR ct SR] [wR aR ct OR] (some (.int r0)) 0 0 := by
  refine z_enterE (own := RX5) (lv := [(0, .ref (aR 200)), (1, .int a1)]) (by decide) rfl (Nat.le_of_ble_eq_true rfl) rfl ?_
  intro p e s m args below meth c A E hr hnm hEnv
  have L8 : ∀ (n8 : Nat) (SR : zRS) (x1 : Int32) (x2 : Int32) (x3 : Int32), f_X5_every_v1_l8 N n8 SR x1 x2 x3 = some (r0, OR) → zJ p l e rm_X5_every_v1 s m args below meth c (zQ G ct (some (.int r0)) [wR aR ct OR] A below args s 0 0) A G 4 0 0 [wR aR ct SR] [(0, .ref (aR 200)), (1, .int x1), (2, .int x2), (3, .int x3)] 8 [] := by
    intro n8
    induction n8 with
    | zero =>
      intro SR x1 x2 x3 hf
      rw [f_X5_every_v1_l8_z] at hf
      cases hf
    | succ n8 ih8 =>
      intro SR x1 x2 x3 hf
      rw [f_X5_every_v1_l8_s] at hf
      refine z_iload_n (pc := 8) (k0 := 3) E dX5_every_8 rfl rfl ?_
      refine z_bipush (pc := 9) (v := 100) E dX5_every_9 (by decide) ?_
      refine z_icmp_ge (pc := 11) (tgt := 55) E dX5_every_11 (by decide) (fun c4 => ?_) (fun c4 => ?_)
      · have hf := kB_t hf c4
        refine z_iload_n (pc := 55) (k0 := 2) E dX5_every_55 rfl rfl ?_
        obtain ⟨c5, hf⟩ := kO_e hf
        cases hf
        exact z_zret E hr c5 dX5_every_56
      · have hf := kB_f hf c4
        refine z_iload_n (pc := 14) (k0 := 2) E dX5_every_14 rfl rfl ?_
        refine z_if_eq (pc := 15) (tgt := 55) E dX5_every_15 (by decide) (fun c6 => ?_) (fun c6 => ?_)
        · have hf := kB_t hf c6
          refine z_iload_n (pc := 55) (k0 := 2) E dX5_every_55 rfl rfl ?_
          obtain ⟨c7, hf⟩ := kO_e hf
          cases hf
          exact z_zret E hr c7 dX5_every_56
        · have hf := kB_f hf c6
          refine z_aload_n (pc := 18) (k0 := 0) E dX5_every_18 rfl rfl ?_
          refine z_bipush (pc := 19) (v := 38) E dX5_every_19 (by decide) ?_
          obtain ⟨r8, S_9, h10, hf⟩ := kD_e hf
          refine z_callV0 (pc := 21) (is := [0]) (n := 1) (As := [.int 38]) (st := []) (st' := [.int r8]) (C2 := [wR aR ct S_9]) E (c_X5_takes (l := l) (G := G) (ct := ct) (aR := aR) h10) wv_X5_takes wd_21_0 ⟨Nat.le_of_ble_eq_true rfl, Nat.le_of_ble_eq_true rfl, Nat.le_of_ble_eq_true rfl, Nat.le_of_ble_eq_true rfl⟩ rfl rfl rfl (by decide) rfl rfl (zrR (j := 0) rfl) rfl (Nat.le_of_ble_eq_true rfl) dX5_every_21 rfl rfl ?_
          refine z_if_eq (pc := 24) (tgt := 55) E dX5_every_24 (by decide) (fun c11 => ?_) (fun c11 => ?_)
          · have hf := kB_t hf c11
            refine z_iload_n (pc := 55) (k0 := 2) E dX5_every_55 rfl rfl ?_
            obtain ⟨c12, hf⟩ := kO_e hf
            cases hf
            exact z_zret E hr c12 dX5_every_56
          · have hf := kB_f hf c11
            refine z_aload_n (pc := 27) (k0 := 0) E dX5_every_27 rfl rfl ?_
            refine z_iload_n (pc := 28) (k0 := 1) E dX5_every_28 rfl rfl ?_
            obtain ⟨r13, S_14, h15, hf⟩ := kD_e hf
            refine z_callVE (pc := 29) (is := [0]) (n := 1) (As := [.int x1]) (st := []) (st' := [.int r13]) (C2 := [wR aR ct S_14]) E hEnv (c_X5_factor_v1 (adK := adK) (adV := adV) (tA := tA) (l := l) (G := G) (ct := ct) (aR := aR) h15) wv_X5_factor wd_24_20 ⟨Nat.le_of_ble_eq_true rfl, Nat.le_of_ble_eq_true rfl, Nat.le_of_ble_eq_true rfl, Nat.le_of_ble_eq_true rfl⟩ rfl rfl rfl (by decide) rfl rfl (z_rdr (i := 0) E rfl) rfl (Nat.le_of_ble_eq_true rfl) dX5_every_29 rfl rfl ?_
            refine z_if_eq (pc := 32) (tgt := 47) E dX5_every_32 (by decide) (fun c16 => ?_) (fun c16 => ?_)
            · have hf := kB_t hf c16
              refine z_iconst (pc := 47) (v := 0) E dX5_every_47 (by decide) ?_
              refine z_istore_n (pc := 48) (lv' := [(2, .int 0), (0, .ref (aR 200)), (1, .int x1), (3, .int x3)]) E dX5_every_48 rfl (by decide) rfl ?_
              obtain ⟨v17, e_v17, hf⟩ := kL_e hf
              refine z_iinc (pc := 49) (k0 := 3) (v := v17) (lv' := [(3, .int v17), (2, .int 0), (0, .ref (aR 200)), (1, .int x1)]) E dX5_every_49 rfl e_v17 (by decide) rfl ?_
              refine z_goto (pc := 52) (tgt := 8) E dX5_every_52 (by decide) ?_
              refine z_sub [2, 3, 1, 0] (lv' := [(0, .ref (aR 200)), (1, .int x1), (2, .int 0), (3, .int v17)]) rfl ?_
              exact ih8 S_14 x1 0 v17 hf
            · have hf := kB_f hf c16
              refine z_aload_n (pc := 35) (k0 := 0) E dX5_every_35 rfl rfl ?_
              refine z_iconst (pc := 36) (v := 2) E dX5_every_36 (by decide) ?_
              obtain ⟨r18, S_19, h20, hf⟩ := kD_e hf
              refine z_callV0 (pc := 37) (is := [0]) (n := 1) (As := [.int 2]) (st := []) (st' := [.int r18]) (C2 := [wR aR ct S_19]) E (c_X5_puts (l := l) (G := G) (ct := ct) (aR := aR) h20) wv_X5_puts wd_24_15 ⟨Nat.le_of_ble_eq_true rfl, Nat.le_of_ble_eq_true rfl, Nat.le_of_ble_eq_true rfl, Nat.le_of_ble_eq_true rfl⟩ rfl rfl rfl (by decide) rfl rfl (zrR (j := 0) rfl) rfl (Nat.le_of_ble_eq_true rfl) dX5_every_37 rfl rfl ?_
              refine z_if_eq (pc := 40) (tgt := 47) E dX5_every_40 (by decide) (fun c21 => ?_) (fun c21 => ?_)
              · have hf := kB_t hf c21
                refine z_iconst (pc := 47) (v := 0) E dX5_every_47 (by decide) ?_
                refine z_istore_n (pc := 48) (lv' := [(2, .int 0), (0, .ref (aR 200)), (1, .int x1), (3, .int x3)]) E dX5_every_48 rfl (by decide) rfl ?_
                obtain ⟨v22, e_v22, hf⟩ := kL_e hf
                refine z_iinc (pc := 49) (k0 := 3) (v := v22) (lv' := [(3, .int v22), (2, .int 0), (0, .ref (aR 200)), (1, .int x1)]) E dX5_every_49 rfl e_v22 (by decide) rfl ?_
                refine z_goto (pc := 52) (tgt := 8) E dX5_every_52 (by decide) ?_
                refine z_sub [2, 3, 1, 0] (lv' := [(0, .ref (aR 200)), (1, .int x1), (2, .int 0), (3, .int v22)]) rfl ?_
                exact ih8 S_19 x1 0 v22 hf
              · have hf := kB_f hf c21
                refine z_iconst (pc := 43) (v := 1) E dX5_every_43 (by decide) ?_
                refine z_goto (pc := 44) (tgt := 48) E dX5_every_44 (by decide) ?_
                refine z_istore_n (pc := 48) (lv' := [(2, .int 1), (0, .ref (aR 200)), (1, .int x1), (3, .int x3)]) E dX5_every_48 rfl (by decide) rfl ?_
                obtain ⟨v23, e_v23, hf⟩ := kL_e hf
                refine z_iinc (pc := 49) (k0 := 3) (v := v23) (lv' := [(3, .int v23), (2, .int 1), (0, .ref (aR 200)), (1, .int x1)]) E dX5_every_49 rfl e_v23 (by decide) rfl ?_
                refine z_goto (pc := 52) (tgt := 8) E dX5_every_52 (by decide) ?_
                refine z_sub [2, 3, 1, 0] (lv' := [(0, .ref (aR 200)), (1, .int x1), (2, .int 1), (3, .int v23)]) rfl ?_
                exact ih8 S_19 x1 1 v23 hf
  unfold f_X5_every_v1 at hf
  refine z_aload_n (pc := 0) (k0 := 0) E dX5_every_0 rfl rfl ?_
  refine z_iload_n (pc := 1) (k0 := 1) E dX5_every_1 rfl rfl ?_
  obtain ⟨r1, S_2, h3, hf⟩ := kD_e hf
  refine z_callVE (pc := 2) (is := [0]) (n := 1) (As := [.int a1]) (st := []) (st' := [.int r1]) (C2 := [wR aR ct S_2]) E hEnv (c_X5_factor_v1 (adK := adK) (adV := adV) (tA := tA) (l := l) (G := G) (ct := ct) (aR := aR) h3) wv_X5_factor wd_24_20 ⟨Nat.le_of_ble_eq_true rfl, Nat.le_of_ble_eq_true rfl, Nat.le_of_ble_eq_true rfl, Nat.le_of_ble_eq_true rfl⟩ rfl rfl rfl (by decide) rfl rfl (z_rdr (i := 0) E rfl) rfl (Nat.le_of_ble_eq_true rfl) dX5_every_2 rfl rfl ?_
  refine z_istore_n (pc := 5) (lv' := [(2, .int r1), (0, .ref (aR 200)), (1, .int a1)]) E dX5_every_5 rfl (by decide) rfl ?_
  refine z_iconst (pc := 6) (v := 0) E dX5_every_6 (by decide) ?_
  refine z_istore_n (pc := 7) (lv' := [(3, .int 0), (2, .int r1), (0, .ref (aR 200)), (1, .int a1)]) E dX5_every_7 rfl (by decide) rfl ?_
  refine z_sub [2, 3, 1, 0] (lv' := [(0, .ref (aR 200)), (1, .int a1), (2, .int r1), (3, .int 0)]) rfl ?_
  exact L8 N S_2 a1 r1 0 hf
noncomputable def f_X5_either_v1_l8 (N : Nat) : Nat → zRS → Int32 → Int32 → Int32 → Option (Int32 × zRS) := fun n => Nat.rec (motive := fun _ => zRS → Int32 → Int32 → Int32 → Option (Int32 × zRS)) (fun _ _ _ _ => none) (fun _ ih SR x1 x2 x3 => kB (100 ≤ x3) (kO (x2 = 0 ∨ x2 = 1) (some (x2, SR))) (kB (x2 = 0) (kO (x2 = 0 ∨ x2 = 1) (some (x2, SR))) (kD (f_X5_takes SR 124) (fun r8 S_9 => kB (r8 = 0) (kO (x2 = 0 ∨ x2 = 1) (some (x2, S_9))) (kD (f_X5_every_v1 N S_9 x1) (fun r13 S_14 => kB (r13 = 0) (kL (x3 + 1) (fun v17 => ih S_14 x1 0 v17)) (kD (f_X5_puts S_14 3) (fun r18 S_19 => kB (r18 = 0) (kL (x3 + 1) (fun v22 => ih S_19 x1 0 v22)) (kL (x3 + 1) (fun v23 => ih S_19 x1 1 v23)))))))))) n
theorem f_X5_either_v1_l8_z (N : Nat) (SR : zRS) (x1 : Int32) (x2 : Int32) (x3 : Int32) : f_X5_either_v1_l8 N 0 SR x1 x2 x3 = none := rfl
theorem f_X5_either_v1_l8_s (N : Nat) (n : Nat) (SR : zRS) (x1 : Int32) (x2 : Int32) (x3 : Int32) : f_X5_either_v1_l8 N (n + 1) SR x1 x2 x3 = kB (100 ≤ x3) (kO (x2 = 0 ∨ x2 = 1) (some (x2, SR))) (kB (x2 = 0) (kO (x2 = 0 ∨ x2 = 1) (some (x2, SR))) (kD (f_X5_takes SR 124) (fun r8 S_9 => kB (r8 = 0) (kO (x2 = 0 ∨ x2 = 1) (some (x2, S_9))) (kD (f_X5_every_v1 N S_9 x1) (fun r13 S_14 => kB (r13 = 0) (kL (x3 + 1) (fun v17 => (f_X5_either_v1_l8 N n) S_14 x1 0 v17)) (kD (f_X5_puts S_14 3) (fun r18 S_19 => kB (r18 = 0) (kL (x3 + 1) (fun v22 => (f_X5_either_v1_l8 N n) S_19 x1 0 v22)) (kL (x3 + 1) (fun v23 => (f_X5_either_v1_l8 N n) S_19 x1 1 v23))))))))) := rfl
noncomputable def f_X5_either_v1 (N : Nat) (SR : zRS) (a1 : Int32) : Option (Int32 × zRS) := kD (f_X5_every_v1 N SR a1) (fun r1 S_2 => f_X5_either_v1_l8 N N S_2 a1 r1 0)
def rm_X5_either_v1 : Room := { frames := 17, cells := 0, slots := 0, locals := 467 }
set_option maxHeartbeats 4000000 in
set_option maxRecDepth 100000 in
theorem c_X5_either_v1 {adK adV : Nat → Nat} {tA : Nat} {l : Launch} {G : va_G} {ct : Nat → ClassId} {aR : Nat → Nat} {N : Nat} {SR : zRS} {a1 : Int32} {r0 : Int32} {OR : zRS} (hf : f_X5_either_v1 N SR a1 = some (r0, OR)) : zCE adK adV tA l yX5_either cX5_either 4 (some .boolean) rm_X5_either_v1 G ct [.ref (aR 200), .int a1] [wR aR ct SR] [wR aR ct OR] (some (.int r0)) 0 0 := by
  refine z_enterE (own := RX5) (lv := [(0, .ref (aR 200)), (1, .int a1)]) (by decide) rfl (Nat.le_of_ble_eq_true rfl) rfl ?_
  intro p e s m args below meth c A E hr hnm hEnv
  have L8 : ∀ (n8 : Nat) (SR : zRS) (x1 : Int32) (x2 : Int32) (x3 : Int32), f_X5_either_v1_l8 N n8 SR x1 x2 x3 = some (r0, OR) → zJ p l e rm_X5_either_v1 s m args below meth c (zQ G ct (some (.int r0)) [wR aR ct OR] A below args s 0 0) A G 4 0 0 [wR aR ct SR] [(0, .ref (aR 200)), (1, .int x1), (2, .int x2), (3, .int x3)] 8 [] := by
    intro n8
    induction n8 with
    | zero =>
      intro SR x1 x2 x3 hf
      rw [f_X5_either_v1_l8_z] at hf
      cases hf
    | succ n8 ih8 =>
      intro SR x1 x2 x3 hf
      rw [f_X5_either_v1_l8_s] at hf
      refine z_iload_n (pc := 8) (k0 := 3) E dX5_either_8 rfl rfl ?_
      refine z_bipush (pc := 9) (v := 100) E dX5_either_9 (by decide) ?_
      refine z_icmp_ge (pc := 11) (tgt := 55) E dX5_either_11 (by decide) (fun c4 => ?_) (fun c4 => ?_)
      · have hf := kB_t hf c4
        refine z_iload_n (pc := 55) (k0 := 2) E dX5_either_55 rfl rfl ?_
        obtain ⟨c5, hf⟩ := kO_e hf
        cases hf
        exact z_zret E hr c5 dX5_either_56
      · have hf := kB_f hf c4
        refine z_iload_n (pc := 14) (k0 := 2) E dX5_either_14 rfl rfl ?_
        refine z_if_eq (pc := 15) (tgt := 55) E dX5_either_15 (by decide) (fun c6 => ?_) (fun c6 => ?_)
        · have hf := kB_t hf c6
          refine z_iload_n (pc := 55) (k0 := 2) E dX5_either_55 rfl rfl ?_
          obtain ⟨c7, hf⟩ := kO_e hf
          cases hf
          exact z_zret E hr c7 dX5_either_56
        · have hf := kB_f hf c6
          refine z_aload_n (pc := 18) (k0 := 0) E dX5_either_18 rfl rfl ?_
          refine z_bipush (pc := 19) (v := 124) E dX5_either_19 (by decide) ?_
          obtain ⟨r8, S_9, h10, hf⟩ := kD_e hf
          refine z_callV0 (pc := 21) (is := [0]) (n := 1) (As := [.int 124]) (st := []) (st' := [.int r8]) (C2 := [wR aR ct S_9]) E (c_X5_takes (l := l) (G := G) (ct := ct) (aR := aR) h10) wv_X5_takes wd_21_0 ⟨Nat.le_of_ble_eq_true rfl, Nat.le_of_ble_eq_true rfl, Nat.le_of_ble_eq_true rfl, Nat.le_of_ble_eq_true rfl⟩ rfl rfl rfl (by decide) rfl rfl (zrR (j := 0) rfl) rfl (Nat.le_of_ble_eq_true rfl) dX5_either_21 rfl rfl ?_
          refine z_if_eq (pc := 24) (tgt := 55) E dX5_either_24 (by decide) (fun c11 => ?_) (fun c11 => ?_)
          · have hf := kB_t hf c11
            refine z_iload_n (pc := 55) (k0 := 2) E dX5_either_55 rfl rfl ?_
            obtain ⟨c12, hf⟩ := kO_e hf
            cases hf
            exact z_zret E hr c12 dX5_either_56
          · have hf := kB_f hf c11
            refine z_aload_n (pc := 27) (k0 := 0) E dX5_either_27 rfl rfl ?_
            refine z_iload_n (pc := 28) (k0 := 1) E dX5_either_28 rfl rfl ?_
            obtain ⟨r13, S_14, h15, hf⟩ := kD_e hf
            refine z_callVE (pc := 29) (is := [0]) (n := 1) (As := [.int x1]) (st := []) (st' := [.int r13]) (C2 := [wR aR ct S_14]) E hEnv (c_X5_every_v1 (adK := adK) (adV := adV) (tA := tA) (l := l) (G := G) (ct := ct) (aR := aR) h15) wv_X5_every wd_24_12 ⟨Nat.le_of_ble_eq_true rfl, Nat.le_of_ble_eq_true rfl, Nat.le_of_ble_eq_true rfl, Nat.le_of_ble_eq_true rfl⟩ rfl rfl rfl (by decide) rfl rfl (z_rdr (i := 0) E rfl) rfl (Nat.le_of_ble_eq_true rfl) dX5_either_29 rfl rfl ?_
            refine z_if_eq (pc := 32) (tgt := 47) E dX5_either_32 (by decide) (fun c16 => ?_) (fun c16 => ?_)
            · have hf := kB_t hf c16
              refine z_iconst (pc := 47) (v := 0) E dX5_either_47 (by decide) ?_
              refine z_istore_n (pc := 48) (lv' := [(2, .int 0), (0, .ref (aR 200)), (1, .int x1), (3, .int x3)]) E dX5_either_48 rfl (by decide) rfl ?_
              obtain ⟨v17, e_v17, hf⟩ := kL_e hf
              refine z_iinc (pc := 49) (k0 := 3) (v := v17) (lv' := [(3, .int v17), (2, .int 0), (0, .ref (aR 200)), (1, .int x1)]) E dX5_either_49 rfl e_v17 (by decide) rfl ?_
              refine z_goto (pc := 52) (tgt := 8) E dX5_either_52 (by decide) ?_
              refine z_sub [2, 3, 1, 0] (lv' := [(0, .ref (aR 200)), (1, .int x1), (2, .int 0), (3, .int v17)]) rfl ?_
              exact ih8 S_14 x1 0 v17 hf
            · have hf := kB_f hf c16
              refine z_aload_n (pc := 35) (k0 := 0) E dX5_either_35 rfl rfl ?_
              refine z_iconst (pc := 36) (v := 3) E dX5_either_36 (by decide) ?_
              obtain ⟨r18, S_19, h20, hf⟩ := kD_e hf
              refine z_callV0 (pc := 37) (is := [0]) (n := 1) (As := [.int 3]) (st := []) (st' := [.int r18]) (C2 := [wR aR ct S_19]) E (c_X5_puts (l := l) (G := G) (ct := ct) (aR := aR) h20) wv_X5_puts wd_24_15 ⟨Nat.le_of_ble_eq_true rfl, Nat.le_of_ble_eq_true rfl, Nat.le_of_ble_eq_true rfl, Nat.le_of_ble_eq_true rfl⟩ rfl rfl rfl (by decide) rfl rfl (zrR (j := 0) rfl) rfl (Nat.le_of_ble_eq_true rfl) dX5_either_37 rfl rfl ?_
              refine z_if_eq (pc := 40) (tgt := 47) E dX5_either_40 (by decide) (fun c21 => ?_) (fun c21 => ?_)
              · have hf := kB_t hf c21
                refine z_iconst (pc := 47) (v := 0) E dX5_either_47 (by decide) ?_
                refine z_istore_n (pc := 48) (lv' := [(2, .int 0), (0, .ref (aR 200)), (1, .int x1), (3, .int x3)]) E dX5_either_48 rfl (by decide) rfl ?_
                obtain ⟨v22, e_v22, hf⟩ := kL_e hf
                refine z_iinc (pc := 49) (k0 := 3) (v := v22) (lv' := [(3, .int v22), (2, .int 0), (0, .ref (aR 200)), (1, .int x1)]) E dX5_either_49 rfl e_v22 (by decide) rfl ?_
                refine z_goto (pc := 52) (tgt := 8) E dX5_either_52 (by decide) ?_
                refine z_sub [2, 3, 1, 0] (lv' := [(0, .ref (aR 200)), (1, .int x1), (2, .int 0), (3, .int v22)]) rfl ?_
                exact ih8 S_19 x1 0 v22 hf
              · have hf := kB_f hf c21
                refine z_iconst (pc := 43) (v := 1) E dX5_either_43 (by decide) ?_
                refine z_goto (pc := 44) (tgt := 48) E dX5_either_44 (by decide) ?_
                refine z_istore_n (pc := 48) (lv' := [(2, .int 1), (0, .ref (aR 200)), (1, .int x1), (3, .int x3)]) E dX5_either_48 rfl (by decide) rfl ?_
                obtain ⟨v23, e_v23, hf⟩ := kL_e hf
                refine z_iinc (pc := 49) (k0 := 3) (v := v23) (lv' := [(3, .int v23), (2, .int 1), (0, .ref (aR 200)), (1, .int x1)]) E dX5_either_49 rfl e_v23 (by decide) rfl ?_
                refine z_goto (pc := 52) (tgt := 8) E dX5_either_52 (by decide) ?_
                refine z_sub [2, 3, 1, 0] (lv' := [(0, .ref (aR 200)), (1, .int x1), (2, .int 1), (3, .int v23)]) rfl ?_
                exact ih8 S_19 x1 1 v23 hf
  unfold f_X5_either_v1 at hf
  refine z_aload_n (pc := 0) (k0 := 0) E dX5_either_0 rfl rfl ?_
  refine z_iload_n (pc := 1) (k0 := 1) E dX5_either_1 rfl rfl ?_
  obtain ⟨r1, S_2, h3, hf⟩ := kD_e hf
  refine z_callVE (pc := 2) (is := [0]) (n := 1) (As := [.int a1]) (st := []) (st' := [.int r1]) (C2 := [wR aR ct S_2]) E hEnv (c_X5_every_v1 (adK := adK) (adV := adV) (tA := tA) (l := l) (G := G) (ct := ct) (aR := aR) h3) wv_X5_every wd_24_12 ⟨Nat.le_of_ble_eq_true rfl, Nat.le_of_ble_eq_true rfl, Nat.le_of_ble_eq_true rfl, Nat.le_of_ble_eq_true rfl⟩ rfl rfl rfl (by decide) rfl rfl (z_rdr (i := 0) E rfl) rfl (Nat.le_of_ble_eq_true rfl) dX5_either_2 rfl rfl ?_
  refine z_istore_n (pc := 5) (lv' := [(2, .int r1), (0, .ref (aR 200)), (1, .int a1)]) E dX5_either_5 rfl (by decide) rfl ?_
  refine z_iconst (pc := 6) (v := 0) E dX5_either_6 (by decide) ?_
  refine z_istore_n (pc := 7) (lv' := [(3, .int 0), (2, .int r1), (0, .ref (aR 200)), (1, .int a1)]) E dX5_either_7 rfl (by decide) rfl ?_
  refine z_sub [2, 3, 1, 0] (lv' := [(0, .ref (aR 200)), (1, .int a1), (2, .int r1), (3, .int 0)]) rfl ?_
  exact L8 N S_2 a1 r1 0 hf
noncomputable def f_X5_factor_v0_b111 (N : Nat) (SR : zRS) (x2 : Int32) (x3 : Int32) (y0 : Int32) : Option (Int32 × zRS) := kB (y0 < 0) (some (0, SR)) (kL (x2 <<< (2 &&& 31)) (fun v41 => kL ((0 : Int32) ||| v41) (fun v42 => kL (x3 <<< (5 &&& 31)) (fun v43 => kL (v42 ||| v43) (fun v44 => kL (y0 <<< (7 &&& 31)) (fun v45 => kL (v44 ||| v45) (fun v46 => kD (f_X5_puts SR v46) (fun r47 S_48 => kB (r47 = 0) (some (0, S_48)) (some (1, S_48))))))))))
noncomputable def f_X5_factor_v0_b98 (N : Nat) (SR : zRS) (x2 : Int32) (y0 : Int32) : Option (Int32 × zRS) := kB (0 ≤ y0) (kD (f_X5_number N SR) (fun r37 S_38 => f_X5_factor_v0_b111 N S_38 x2 y0 r37)) (f_X5_factor_v0_b111 N SR x2 y0 (-1))
noncomputable def f_X5_factor_v0_b77 (N : Nat) (SR : zRS) : Option (Int32 × zRS) := kD (f_X5_oneOf N SR 2) (fun r29 S_30 => kB (0 ≤ r29) (kD (f_X5_oneOf N S_30 3) (fun r33 S_34 => f_X5_factor_v0_b98 N S_34 r29 r33)) (f_X5_factor_v0_b98 N S_30 r29 (-1)))
noncomputable def f_X5_factor_v0_b38 (N : Nat) (SR : zRS) (x1 : Int32) : Option (Int32 × zRS) := kB (4 ≤ x1) (f_X5_factor_v0_b77 N SR) (kD (f_X5_takes SR 40) (fun r16 S_17 => kB (r16 = 0) (f_X5_factor_v0_b77 N S_17) (kL (x1 + 1) (fun v20 => kD (f_X5_either_v1 N S_17 v20) (fun r21 S_22 => kB (r21 = 0) (some (0, S_22)) (kD (f_X5_takes S_22 41) (fun r25 S_26 => kB (r25 = 0) (some (0, S_26)) (some (1, S_26)))))))))
noncomputable def f_X5_factor_v0 (N : Nat) (SR : zRS) (a1 : Int32) : Option (Int32 × zRS) := kB (4 ≤ a1) (f_X5_factor_v0_b38 N SR a1) (kD (f_X5_takes SR 33) (fun r2 S_3 => kB (r2 = 0) (f_X5_factor_v0_b38 N S_3 a1) (kL (a1 + 1) (fun v6 => kD (f_X5_factor_v1 N S_3 v6) (fun r7 S_8 => kB (r7 = 0) (some (0, S_8)) (kD (f_X5_puts S_8 1) (fun r11 S_12 => kB (r11 = 0) (some (0, S_12)) (some (1, S_12)))))))))
def rm_X5_factor_v0 : Room := { frames := 18, cells := 0, slots := 0, locals := 490 }
set_option maxHeartbeats 4000000 in
set_option maxRecDepth 100000 in
theorem c_X5_factor_v0 {adK adV : Nat → Nat} {tA : Nat} {l : Launch} {G : va_G} {ct : Nat → ClassId} {aR : Nat → Nat} {N : Nat} {SR : zRS} {a1 : Int32} {r0 : Int32} {OR : zRS} (hf : f_X5_factor_v0 N SR a1 = some (r0, OR)) : zCE adK adV tA l yX5_factor cX5_factor 5 (some .boolean) rm_X5_factor_v0 G ct [.ref (aR 200), .int a1] [wR aR ct SR] [wR aR ct OR] (some (.int r0)) 0 0 := by
  refine z_enterE (own := RX5) (lv := [(0, .ref (aR 200)), (1, .int a1)]) (by decide) rfl (Nat.le_of_ble_eq_true rfl) rfl ?_
  intro p e s m args below meth c A E hr hnm hEnv
  have B111 : ∀ (SR : zRS) (x2 : Int32) (x3 : Int32) (y0 : Int32), f_X5_factor_v0_b111 N SR x2 x3 y0 = some (r0, OR) → zJ p l e rm_X5_factor_v0 s m args below meth c (zQ G ct (some (.int r0)) [wR aR ct OR] A below args s 0 0) A G 5 0 0 [wR aR ct SR] [(0, .ref (aR 200)), (2, .int x2), (3, .int x3)] 111 [.int y0] := by
    intro SR x2 x3 y0 hf
    unfold f_X5_factor_v0_b111 at hf
    refine z_istore (pc := 111) (lv' := [(4, .int y0), (0, .ref (aR 200)), (2, .int x2), (3, .int x3)]) E dX5_factor_111 (by decide) rfl ?_
    refine z_iload (pc := 113) (k0 := 0) E dX5_factor_113 rfl ?_
    refine z_if_lt (pc := 115) (tgt := 144) E dX5_factor_115 (by decide) (fun c40 => ?_) (fun c40 => ?_)
    · have hf := kB_t hf c40
      refine z_iconst (pc := 144) (v := 0) E dX5_factor_144 (by decide) ?_
      cases hf
      exact z_zret E hr (by decide) dX5_factor_145
    · have hf := kB_f hf c40
      refine z_aload_n (pc := 118) (k0 := 1) E dX5_factor_118 rfl rfl ?_
      refine z_iconst (pc := 119) (v := 0) E dX5_factor_119 (by decide) ?_
      refine z_iload_n (pc := 120) (k0 := 2) E dX5_factor_120 rfl rfl ?_
      refine z_iconst (pc := 121) (v := 2) E dX5_factor_121 (by decide) ?_
      obtain ⟨v41, e_v41, hf⟩ := kL_e hf
      refine z_ishl (pc := 122) (v := v41) E dX5_factor_122 e_v41 ?_
      obtain ⟨v42, e_v42, hf⟩ := kL_e hf
      refine z_ior (pc := 123) (v := v42) E dX5_factor_123 e_v42 ?_
      refine z_iload_n (pc := 124) (k0 := 3) E dX5_factor_124 rfl rfl ?_
      refine z_iconst (pc := 125) (v := 5) E dX5_factor_125 (by decide) ?_
      obtain ⟨v43, e_v43, hf⟩ := kL_e hf
      refine z_ishl (pc := 126) (v := v43) E dX5_factor_126 e_v43 ?_
      obtain ⟨v44, e_v44, hf⟩ := kL_e hf
      refine z_ior (pc := 127) (v := v44) E dX5_factor_127 e_v44 ?_
      refine z_iload (pc := 128) (k0 := 0) E dX5_factor_128 rfl ?_
      refine z_bipush (pc := 130) (v := 7) E dX5_factor_130 (by decide) ?_
      obtain ⟨v45, e_v45, hf⟩ := kL_e hf
      refine z_ishl (pc := 132) (v := v45) E dX5_factor_132 e_v45 ?_
      obtain ⟨v46, e_v46, hf⟩ := kL_e hf
      refine z_ior (pc := 133) (v := v46) E dX5_factor_133 e_v46 ?_
      obtain ⟨r47, S_48, h49, hf⟩ := kD_e hf
      refine z_callV0 (pc := 134) (is := [0]) (n := 1) (As := [.int v46]) (st := []) (st' := [.int r47]) (C2 := [wR aR ct S_48]) E (c_X5_puts (l := l) (G := G) (ct := ct) (aR := aR) h49) wv_X5_puts wd_24_15 ⟨Nat.le_of_ble_eq_true rfl, Nat.le_of_ble_eq_true rfl, Nat.le_of_ble_eq_true rfl, Nat.le_of_ble_eq_true rfl⟩ rfl rfl rfl (by decide) rfl rfl (zrR (j := 0) rfl) rfl (Nat.le_of_ble_eq_true rfl) dX5_factor_134 rfl rfl ?_
      refine z_if_eq (pc := 137) (tgt := 144) E dX5_factor_137 (by decide) (fun c50 => ?_) (fun c50 => ?_)
      · have hf := kB_t hf c50
        refine z_iconst (pc := 144) (v := 0) E dX5_factor_144 (by decide) ?_
        cases hf
        exact z_zret E hr (by decide) dX5_factor_145
      · have hf := kB_f hf c50
        refine z_iconst (pc := 140) (v := 1) E dX5_factor_140 (by decide) ?_
        refine z_goto (pc := 141) (tgt := 145) E dX5_factor_141 (by decide) ?_
        cases hf
        exact z_zret E hr (by decide) dX5_factor_145
  have B98 : ∀ (SR : zRS) (x2 : Int32) (y0 : Int32), f_X5_factor_v0_b98 N SR x2 y0 = some (r0, OR) → zJ p l e rm_X5_factor_v0 s m args below meth c (zQ G ct (some (.int r0)) [wR aR ct OR] A below args s 0 0) A G 5 0 0 [wR aR ct SR] [(0, .ref (aR 200)), (2, .int x2)] 98 [.int y0] := by
    intro SR x2 y0 hf
    unfold f_X5_factor_v0_b98 at hf
    refine z_istore_n (pc := 98) (lv' := [(3, .int y0), (0, .ref (aR 200)), (2, .int x2)]) E dX5_factor_98 rfl (by decide) rfl ?_
    refine z_iload_n (pc := 99) (k0 := 0) E dX5_factor_99 rfl rfl ?_
    refine z_if_ge (pc := 100) (tgt := 107) E dX5_factor_100 (by decide) (fun c36 => ?_) (fun c36 => ?_)
    · have hf := kB_t hf c36
      refine z_aload_n (pc := 107) (k0 := 1) E dX5_factor_107 rfl rfl ?_
      obtain ⟨r37, S_38, h39, hf⟩ := kD_e hf
      refine z_callVE (pc := 108) (is := [0]) (n := 0) (As := []) (st := []) (st' := [.int r37]) (C2 := [wR aR ct S_38]) E hEnv (c_X5_number (adK := adK) (adV := adV) (tA := tA) (l := l) (G := G) (ct := ct) (aR := aR) h39) wv_X5_number wd_21_4 ⟨Nat.le_of_ble_eq_true rfl, Nat.le_of_ble_eq_true rfl, Nat.le_of_ble_eq_true rfl, Nat.le_of_ble_eq_true rfl⟩ rfl rfl rfl (by decide) rfl rfl (z_rdr (i := 0) E rfl) rfl (Nat.le_of_ble_eq_true rfl) dX5_factor_108 rfl rfl ?_
      refine z_sub [1, 2, 0] (lv' := [(0, .ref (aR 200)), (2, .int x2), (3, .int y0)]) rfl ?_
      exact B111 S_38 x2 y0 r37 hf
    · have hf := kB_f hf c36
      refine z_iconst (pc := 103) (v := (-1)) E dX5_factor_103 (by decide) ?_
      refine z_goto (pc := 104) (tgt := 111) E dX5_factor_104 (by decide) ?_
      refine z_sub [1, 2, 0] (lv' := [(0, .ref (aR 200)), (2, .int x2), (3, .int y0)]) rfl ?_
      exact B111 SR x2 y0 (-1) hf
  have B77 : ∀ (SR : zRS), f_X5_factor_v0_b77 N SR = some (r0, OR) → zJ p l e rm_X5_factor_v0 s m args below meth c (zQ G ct (some (.int r0)) [wR aR ct OR] A below args s 0 0) A G 5 0 0 [wR aR ct SR] [(0, .ref (aR 200))] 77 [] := by
    intro SR hf
    unfold f_X5_factor_v0_b77 at hf
    refine z_aload_n (pc := 77) (k0 := 0) E dX5_factor_77 rfl rfl ?_
    refine z_ldcS (pc := 78) (q := adK 2) E hEnv.2.1.2.2.1 dX5_factor_78 ?_
    obtain ⟨r29, S_30, h31, hf⟩ := kD_e hf
    refine z_callVE (pc := 80) (is := [0]) (n := 1) (As := [.ref (adK 2)]) (st := []) (st' := [.int r29]) (C2 := [wR aR ct S_30]) E hEnv (c_X5_oneOf (adK := adK) (adV := adV) (tA := tA) (l := l) (G := G) (ct := ct) (aR := aR) h31) wv_X5_oneOf wd_21_8 ⟨Nat.le_of_ble_eq_true rfl, Nat.le_of_ble_eq_true rfl, Nat.le_of_ble_eq_true rfl, Nat.le_of_ble_eq_true rfl⟩ rfl rfl rfl (by decide) rfl rfl (z_rdr (i := 0) E rfl) rfl (Nat.le_of_ble_eq_true rfl) dX5_factor_80 rfl rfl ?_
    refine z_istore_n (pc := 83) (lv' := [(2, .int r29), (0, .ref (aR 200))]) E dX5_factor_83 rfl (by decide) rfl ?_
    refine z_iload_n (pc := 84) (k0 := 0) E dX5_factor_84 rfl rfl ?_
    refine z_if_ge (pc := 85) (tgt := 92) E dX5_factor_85 (by decide) (fun c32 => ?_) (fun c32 => ?_)
    · have hf := kB_t hf c32
      refine z_aload_n (pc := 92) (k0 := 1) E dX5_factor_92 rfl rfl ?_
      refine z_ldcS (pc := 93) (q := adK 3) E hEnv.2.1.2.2.2.1 dX5_factor_93 ?_
      obtain ⟨r33, S_34, h35, hf⟩ := kD_e hf
      refine z_callVE (pc := 95) (is := [0]) (n := 1) (As := [.ref (adK 3)]) (st := []) (st' := [.int r33]) (C2 := [wR aR ct S_34]) E hEnv (c_X5_oneOf (adK := adK) (adV := adV) (tA := tA) (l := l) (G := G) (ct := ct) (aR := aR) h35) wv_X5_oneOf wd_21_8 ⟨Nat.le_of_ble_eq_true rfl, Nat.le_of_ble_eq_true rfl, Nat.le_of_ble_eq_true rfl, Nat.le_of_ble_eq_true rfl⟩ rfl rfl rfl (by decide) rfl rfl (z_rdr (i := 0) E rfl) rfl (Nat.le_of_ble_eq_true rfl) dX5_factor_95 rfl rfl ?_
      refine z_sub [1, 0] (lv' := [(0, .ref (aR 200)), (2, .int r29)]) rfl ?_
      exact B98 S_34 r29 r33 hf
    · have hf := kB_f hf c32
      refine z_iconst (pc := 88) (v := (-1)) E dX5_factor_88 (by decide) ?_
      refine z_goto (pc := 89) (tgt := 98) E dX5_factor_89 (by decide) ?_
      refine z_sub [1, 0] (lv' := [(0, .ref (aR 200)), (2, .int r29)]) rfl ?_
      exact B98 S_30 r29 (-1) hf
  have B38 : ∀ (SR : zRS) (x1 : Int32), f_X5_factor_v0_b38 N SR x1 = some (r0, OR) → zJ p l e rm_X5_factor_v0 s m args below meth c (zQ G ct (some (.int r0)) [wR aR ct OR] A below args s 0 0) A G 5 0 0 [wR aR ct SR] [(0, .ref (aR 200)), (1, .int x1)] 38 [] := by
    intro SR x1 hf
    unfold f_X5_factor_v0_b38 at hf
    refine z_iload_n (pc := 38) (k0 := 1) E dX5_factor_38 rfl rfl ?_
    refine z_iconst (pc := 39) (v := 4) E dX5_factor_39 (by decide) ?_
    refine z_icmp_ge (pc := 40) (tgt := 77) E dX5_factor_40 (by decide) (fun c15 => ?_) (fun c15 => ?_)
    · have hf := kB_t hf c15
      refine z_sub [0] (lv' := [(0, .ref (aR 200))]) rfl ?_
      exact B77 SR hf
    · have hf := kB_f hf c15
      refine z_aload_n (pc := 43) (k0 := 0) E dX5_factor_43 rfl rfl ?_
      refine z_bipush (pc := 44) (v := 40) E dX5_factor_44 (by decide) ?_
      obtain ⟨r16, S_17, h18, hf⟩ := kD_e hf
      refine z_callV0 (pc := 46) (is := [0]) (n := 1) (As := [.int 40]) (st := []) (st' := [.int r16]) (C2 := [wR aR ct S_17]) E (c_X5_takes (l := l) (G := G) (ct := ct) (aR := aR) h18) wv_X5_takes wd_21_0 ⟨Nat.le_of_ble_eq_true rfl, Nat.le_of_ble_eq_true rfl, Nat.le_of_ble_eq_true rfl, Nat.le_of_ble_eq_true rfl⟩ rfl rfl rfl (by decide) rfl rfl (zrR (j := 0) rfl) rfl (Nat.le_of_ble_eq_true rfl) dX5_factor_46 rfl rfl ?_
      refine z_if_eq (pc := 49) (tgt := 77) E dX5_factor_49 (by decide) (fun c19 => ?_) (fun c19 => ?_)
      · have hf := kB_t hf c19
        refine z_sub [0] (lv' := [(0, .ref (aR 200))]) rfl ?_
        exact B77 S_17 hf
      · have hf := kB_f hf c19
        refine z_aload_n (pc := 52) (k0 := 0) E dX5_factor_52 rfl rfl ?_
        refine z_iload_n (pc := 53) (k0 := 1) E dX5_factor_53 rfl rfl ?_
        refine z_iconst (pc := 54) (v := 1) E dX5_factor_54 (by decide) ?_
        obtain ⟨v20, e_v20, hf⟩ := kL_e hf
        refine z_iadd (pc := 55) (v := v20) E dX5_factor_55 e_v20 ?_
        obtain ⟨r21, S_22, h23, hf⟩ := kD_e hf
        refine z_callVE (pc := 56) (is := [0]) (n := 1) (As := [.int v20]) (st := []) (st' := [.int r21]) (C2 := [wR aR ct S_22]) E hEnv (c_X5_either_v1 (adK := adK) (adV := adV) (tA := tA) (l := l) (G := G) (ct := ct) (aR := aR) h23) wv_X5_either wd_24_8 ⟨Nat.le_of_ble_eq_true rfl, Nat.le_of_ble_eq_true rfl, Nat.le_of_ble_eq_true rfl, Nat.le_of_ble_eq_true rfl⟩ rfl rfl rfl (by decide) rfl rfl (z_rdr (i := 0) E rfl) rfl (Nat.le_of_ble_eq_true rfl) dX5_factor_56 rfl rfl ?_
        refine z_if_eq (pc := 59) (tgt := 75) E dX5_factor_59 (by decide) (fun c24 => ?_) (fun c24 => ?_)
        · have hf := kB_t hf c24
          refine z_iconst (pc := 75) (v := 0) E dX5_factor_75 (by decide) ?_
          cases hf
          exact z_zret E hr (by decide) dX5_factor_76
        · have hf := kB_f hf c24
          refine z_aload_n (pc := 62) (k0 := 0) E dX5_factor_62 rfl rfl ?_
          refine z_bipush (pc := 63) (v := 41) E dX5_factor_63 (by decide) ?_
          obtain ⟨r25, S_26, h27, hf⟩ := kD_e hf
          refine z_callV0 (pc := 65) (is := [0]) (n := 1) (As := [.int 41]) (st := []) (st' := [.int r25]) (C2 := [wR aR ct S_26]) E (c_X5_takes (l := l) (G := G) (ct := ct) (aR := aR) h27) wv_X5_takes wd_21_0 ⟨Nat.le_of_ble_eq_true rfl, Nat.le_of_ble_eq_true rfl, Nat.le_of_ble_eq_true rfl, Nat.le_of_ble_eq_true rfl⟩ rfl rfl rfl (by decide) rfl rfl (zrR (j := 0) rfl) rfl (Nat.le_of_ble_eq_true rfl) dX5_factor_65 rfl rfl ?_
          refine z_if_eq (pc := 68) (tgt := 75) E dX5_factor_68 (by decide) (fun c28 => ?_) (fun c28 => ?_)
          · have hf := kB_t hf c28
            refine z_iconst (pc := 75) (v := 0) E dX5_factor_75 (by decide) ?_
            cases hf
            exact z_zret E hr (by decide) dX5_factor_76
          · have hf := kB_f hf c28
            refine z_iconst (pc := 71) (v := 1) E dX5_factor_71 (by decide) ?_
            refine z_goto (pc := 72) (tgt := 76) E dX5_factor_72 (by decide) ?_
            cases hf
            exact z_zret E hr (by decide) dX5_factor_76
  unfold f_X5_factor_v0 at hf
  refine z_iload_n (pc := 0) (k0 := 1) E dX5_factor_0 rfl rfl ?_
  refine z_iconst (pc := 1) (v := 4) E dX5_factor_1 (by decide) ?_
  refine z_icmp_ge (pc := 2) (tgt := 38) E dX5_factor_2 (by decide) (fun c1 => ?_) (fun c1 => ?_)
  · have hf := kB_t hf c1
    exact B38 SR a1 hf
  · have hf := kB_f hf c1
    refine z_aload_n (pc := 5) (k0 := 0) E dX5_factor_5 rfl rfl ?_
    refine z_bipush (pc := 6) (v := 33) E dX5_factor_6 (by decide) ?_
    obtain ⟨r2, S_3, h4, hf⟩ := kD_e hf
    refine z_callV0 (pc := 8) (is := [0]) (n := 1) (As := [.int 33]) (st := []) (st' := [.int r2]) (C2 := [wR aR ct S_3]) E (c_X5_takes (l := l) (G := G) (ct := ct) (aR := aR) h4) wv_X5_takes wd_21_0 ⟨Nat.le_of_ble_eq_true rfl, Nat.le_of_ble_eq_true rfl, Nat.le_of_ble_eq_true rfl, Nat.le_of_ble_eq_true rfl⟩ rfl rfl rfl (by decide) rfl rfl (zrR (j := 0) rfl) rfl (Nat.le_of_ble_eq_true rfl) dX5_factor_8 rfl rfl ?_
    refine z_if_eq (pc := 11) (tgt := 38) E dX5_factor_11 (by decide) (fun c5 => ?_) (fun c5 => ?_)
    · have hf := kB_t hf c5
      exact B38 S_3 a1 hf
    · have hf := kB_f hf c5
      refine z_aload_n (pc := 14) (k0 := 0) E dX5_factor_14 rfl rfl ?_
      refine z_iload_n (pc := 15) (k0 := 1) E dX5_factor_15 rfl rfl ?_
      refine z_iconst (pc := 16) (v := 1) E dX5_factor_16 (by decide) ?_
      obtain ⟨v6, e_v6, hf⟩ := kL_e hf
      refine z_iadd (pc := 17) (v := v6) E dX5_factor_17 e_v6 ?_
      obtain ⟨r7, S_8, h9, hf⟩ := kD_e hf
      refine z_callVE (pc := 18) (is := [0]) (n := 1) (As := [.int v6]) (st := []) (st' := [.int r7]) (C2 := [wR aR ct S_8]) E hEnv (c_X5_factor_v1 (adK := adK) (adV := adV) (tA := tA) (l := l) (G := G) (ct := ct) (aR := aR) h9) wv_X5_factor wd_24_20 ⟨Nat.le_of_ble_eq_true rfl, Nat.le_of_ble_eq_true rfl, Nat.le_of_ble_eq_true rfl, Nat.le_of_ble_eq_true rfl⟩ rfl rfl rfl (by decide) rfl rfl (z_rdr (i := 0) E rfl) rfl (Nat.le_of_ble_eq_true rfl) dX5_factor_18 rfl rfl ?_
      refine z_if_eq (pc := 21) (tgt := 36) E dX5_factor_21 (by decide) (fun c10 => ?_) (fun c10 => ?_)
      · have hf := kB_t hf c10
        refine z_iconst (pc := 36) (v := 0) E dX5_factor_36 (by decide) ?_
        cases hf
        exact z_zret E hr (by decide) dX5_factor_37
      · have hf := kB_f hf c10
        refine z_aload_n (pc := 24) (k0 := 0) E dX5_factor_24 rfl rfl ?_
        refine z_iconst (pc := 25) (v := 1) E dX5_factor_25 (by decide) ?_
        obtain ⟨r11, S_12, h13, hf⟩ := kD_e hf
        refine z_callV0 (pc := 26) (is := [0]) (n := 1) (As := [.int 1]) (st := []) (st' := [.int r11]) (C2 := [wR aR ct S_12]) E (c_X5_puts (l := l) (G := G) (ct := ct) (aR := aR) h13) wv_X5_puts wd_24_15 ⟨Nat.le_of_ble_eq_true rfl, Nat.le_of_ble_eq_true rfl, Nat.le_of_ble_eq_true rfl, Nat.le_of_ble_eq_true rfl⟩ rfl rfl rfl (by decide) rfl rfl (zrR (j := 0) rfl) rfl (Nat.le_of_ble_eq_true rfl) dX5_factor_26 rfl rfl ?_
        refine z_if_eq (pc := 29) (tgt := 36) E dX5_factor_29 (by decide) (fun c14 => ?_) (fun c14 => ?_)
        · have hf := kB_t hf c14
          refine z_iconst (pc := 36) (v := 0) E dX5_factor_36 (by decide) ?_
          cases hf
          exact z_zret E hr (by decide) dX5_factor_37
        · have hf := kB_f hf c14
          refine z_iconst (pc := 32) (v := 1) E dX5_factor_32 (by decide) ?_
          refine z_goto (pc := 33) (tgt := 37) E dX5_factor_33 (by decide) ?_
          cases hf
          exact z_zret E hr (by decide) dX5_factor_37
noncomputable def f_X5_every_v0_l8 (N : Nat) : Nat → zRS → Int32 → Int32 → Int32 → Option (Int32 × zRS) := fun n => Nat.rec (motive := fun _ => zRS → Int32 → Int32 → Int32 → Option (Int32 × zRS)) (fun _ _ _ _ => none) (fun _ ih SR x1 x2 x3 => kB (100 ≤ x3) (kO (x2 = 0 ∨ x2 = 1) (some (x2, SR))) (kB (x2 = 0) (kO (x2 = 0 ∨ x2 = 1) (some (x2, SR))) (kD (f_X5_takes SR 38) (fun r8 S_9 => kB (r8 = 0) (kO (x2 = 0 ∨ x2 = 1) (some (x2, S_9))) (kD (f_X5_factor_v0 N S_9 x1) (fun r13 S_14 => kB (r13 = 0) (kL (x3 + 1) (fun v17 => ih S_14 x1 0 v17)) (kD (f_X5_puts S_14 2) (fun r18 S_19 => kB (r18 = 0) (kL (x3 + 1) (fun v22 => ih S_19 x1 0 v22)) (kL (x3 + 1) (fun v23 => ih S_19 x1 1 v23)))))))))) n
theorem f_X5_every_v0_l8_z (N : Nat) (SR : zRS) (x1 : Int32) (x2 : Int32) (x3 : Int32) : f_X5_every_v0_l8 N 0 SR x1 x2 x3 = none := rfl
theorem f_X5_every_v0_l8_s (N : Nat) (n : Nat) (SR : zRS) (x1 : Int32) (x2 : Int32) (x3 : Int32) : f_X5_every_v0_l8 N (n + 1) SR x1 x2 x3 = kB (100 ≤ x3) (kO (x2 = 0 ∨ x2 = 1) (some (x2, SR))) (kB (x2 = 0) (kO (x2 = 0 ∨ x2 = 1) (some (x2, SR))) (kD (f_X5_takes SR 38) (fun r8 S_9 => kB (r8 = 0) (kO (x2 = 0 ∨ x2 = 1) (some (x2, S_9))) (kD (f_X5_factor_v0 N S_9 x1) (fun r13 S_14 => kB (r13 = 0) (kL (x3 + 1) (fun v17 => (f_X5_every_v0_l8 N n) S_14 x1 0 v17)) (kD (f_X5_puts S_14 2) (fun r18 S_19 => kB (r18 = 0) (kL (x3 + 1) (fun v22 => (f_X5_every_v0_l8 N n) S_19 x1 0 v22)) (kL (x3 + 1) (fun v23 => (f_X5_every_v0_l8 N n) S_19 x1 1 v23))))))))) := rfl
noncomputable def f_X5_every_v0 (N : Nat) (SR : zRS) (a1 : Int32) : Option (Int32 × zRS) := kD (f_X5_factor_v0 N SR a1) (fun r1 S_2 => f_X5_every_v0_l8 N N S_2 a1 r1 0)
def rm_X5_every_v0 : Room := { frames := 19, cells := 0, slots := 0, locals := 514 }
set_option maxHeartbeats 4000000 in
set_option maxRecDepth 100000 in
theorem c_X5_every_v0 {adK adV : Nat → Nat} {tA : Nat} {l : Launch} {G : va_G} {ct : Nat → ClassId} {aR : Nat → Nat} {N : Nat} {SR : zRS} {a1 : Int32} {r0 : Int32} {OR : zRS} (hf : f_X5_every_v0 N SR a1 = some (r0, OR)) : zCE adK adV tA l yX5_every cX5_every 4 (some .boolean) rm_X5_every_v0 G ct [.ref (aR 200), .int a1] [wR aR ct SR] [wR aR ct OR] (some (.int r0)) 0 0 := by
  refine z_enterE (own := RX5) (lv := [(0, .ref (aR 200)), (1, .int a1)]) (by decide) rfl (Nat.le_of_ble_eq_true rfl) rfl ?_
  intro p e s m args below meth c A E hr hnm hEnv
  have L8 : ∀ (n8 : Nat) (SR : zRS) (x1 : Int32) (x2 : Int32) (x3 : Int32), f_X5_every_v0_l8 N n8 SR x1 x2 x3 = some (r0, OR) → zJ p l e rm_X5_every_v0 s m args below meth c (zQ G ct (some (.int r0)) [wR aR ct OR] A below args s 0 0) A G 4 0 0 [wR aR ct SR] [(0, .ref (aR 200)), (1, .int x1), (2, .int x2), (3, .int x3)] 8 [] := by
    intro n8
    induction n8 with
    | zero =>
      intro SR x1 x2 x3 hf
      rw [f_X5_every_v0_l8_z] at hf
      cases hf
    | succ n8 ih8 =>
      intro SR x1 x2 x3 hf
      rw [f_X5_every_v0_l8_s] at hf
      refine z_iload_n (pc := 8) (k0 := 3) E dX5_every_8 rfl rfl ?_
      refine z_bipush (pc := 9) (v := 100) E dX5_every_9 (by decide) ?_
      refine z_icmp_ge (pc := 11) (tgt := 55) E dX5_every_11 (by decide) (fun c4 => ?_) (fun c4 => ?_)
      · have hf := kB_t hf c4
        refine z_iload_n (pc := 55) (k0 := 2) E dX5_every_55 rfl rfl ?_
        obtain ⟨c5, hf⟩ := kO_e hf
        cases hf
        exact z_zret E hr c5 dX5_every_56
      · have hf := kB_f hf c4
        refine z_iload_n (pc := 14) (k0 := 2) E dX5_every_14 rfl rfl ?_
        refine z_if_eq (pc := 15) (tgt := 55) E dX5_every_15 (by decide) (fun c6 => ?_) (fun c6 => ?_)
        · have hf := kB_t hf c6
          refine z_iload_n (pc := 55) (k0 := 2) E dX5_every_55 rfl rfl ?_
          obtain ⟨c7, hf⟩ := kO_e hf
          cases hf
          exact z_zret E hr c7 dX5_every_56
        · have hf := kB_f hf c6
          refine z_aload_n (pc := 18) (k0 := 0) E dX5_every_18 rfl rfl ?_
          refine z_bipush (pc := 19) (v := 38) E dX5_every_19 (by decide) ?_
          obtain ⟨r8, S_9, h10, hf⟩ := kD_e hf
          refine z_callV0 (pc := 21) (is := [0]) (n := 1) (As := [.int 38]) (st := []) (st' := [.int r8]) (C2 := [wR aR ct S_9]) E (c_X5_takes (l := l) (G := G) (ct := ct) (aR := aR) h10) wv_X5_takes wd_21_0 ⟨Nat.le_of_ble_eq_true rfl, Nat.le_of_ble_eq_true rfl, Nat.le_of_ble_eq_true rfl, Nat.le_of_ble_eq_true rfl⟩ rfl rfl rfl (by decide) rfl rfl (zrR (j := 0) rfl) rfl (Nat.le_of_ble_eq_true rfl) dX5_every_21 rfl rfl ?_
          refine z_if_eq (pc := 24) (tgt := 55) E dX5_every_24 (by decide) (fun c11 => ?_) (fun c11 => ?_)
          · have hf := kB_t hf c11
            refine z_iload_n (pc := 55) (k0 := 2) E dX5_every_55 rfl rfl ?_
            obtain ⟨c12, hf⟩ := kO_e hf
            cases hf
            exact z_zret E hr c12 dX5_every_56
          · have hf := kB_f hf c11
            refine z_aload_n (pc := 27) (k0 := 0) E dX5_every_27 rfl rfl ?_
            refine z_iload_n (pc := 28) (k0 := 1) E dX5_every_28 rfl rfl ?_
            obtain ⟨r13, S_14, h15, hf⟩ := kD_e hf
            refine z_callVE (pc := 29) (is := [0]) (n := 1) (As := [.int x1]) (st := []) (st' := [.int r13]) (C2 := [wR aR ct S_14]) E hEnv (c_X5_factor_v0 (adK := adK) (adV := adV) (tA := tA) (l := l) (G := G) (ct := ct) (aR := aR) h15) wv_X5_factor wd_24_20 ⟨Nat.le_of_ble_eq_true rfl, Nat.le_of_ble_eq_true rfl, Nat.le_of_ble_eq_true rfl, Nat.le_of_ble_eq_true rfl⟩ rfl rfl rfl (by decide) rfl rfl (z_rdr (i := 0) E rfl) rfl (Nat.le_of_ble_eq_true rfl) dX5_every_29 rfl rfl ?_
            refine z_if_eq (pc := 32) (tgt := 47) E dX5_every_32 (by decide) (fun c16 => ?_) (fun c16 => ?_)
            · have hf := kB_t hf c16
              refine z_iconst (pc := 47) (v := 0) E dX5_every_47 (by decide) ?_
              refine z_istore_n (pc := 48) (lv' := [(2, .int 0), (0, .ref (aR 200)), (1, .int x1), (3, .int x3)]) E dX5_every_48 rfl (by decide) rfl ?_
              obtain ⟨v17, e_v17, hf⟩ := kL_e hf
              refine z_iinc (pc := 49) (k0 := 3) (v := v17) (lv' := [(3, .int v17), (2, .int 0), (0, .ref (aR 200)), (1, .int x1)]) E dX5_every_49 rfl e_v17 (by decide) rfl ?_
              refine z_goto (pc := 52) (tgt := 8) E dX5_every_52 (by decide) ?_
              refine z_sub [2, 3, 1, 0] (lv' := [(0, .ref (aR 200)), (1, .int x1), (2, .int 0), (3, .int v17)]) rfl ?_
              exact ih8 S_14 x1 0 v17 hf
            · have hf := kB_f hf c16
              refine z_aload_n (pc := 35) (k0 := 0) E dX5_every_35 rfl rfl ?_
              refine z_iconst (pc := 36) (v := 2) E dX5_every_36 (by decide) ?_
              obtain ⟨r18, S_19, h20, hf⟩ := kD_e hf
              refine z_callV0 (pc := 37) (is := [0]) (n := 1) (As := [.int 2]) (st := []) (st' := [.int r18]) (C2 := [wR aR ct S_19]) E (c_X5_puts (l := l) (G := G) (ct := ct) (aR := aR) h20) wv_X5_puts wd_24_15 ⟨Nat.le_of_ble_eq_true rfl, Nat.le_of_ble_eq_true rfl, Nat.le_of_ble_eq_true rfl, Nat.le_of_ble_eq_true rfl⟩ rfl rfl rfl (by decide) rfl rfl (zrR (j := 0) rfl) rfl (Nat.le_of_ble_eq_true rfl) dX5_every_37 rfl rfl ?_
              refine z_if_eq (pc := 40) (tgt := 47) E dX5_every_40 (by decide) (fun c21 => ?_) (fun c21 => ?_)
              · have hf := kB_t hf c21
                refine z_iconst (pc := 47) (v := 0) E dX5_every_47 (by decide) ?_
                refine z_istore_n (pc := 48) (lv' := [(2, .int 0), (0, .ref (aR 200)), (1, .int x1), (3, .int x3)]) E dX5_every_48 rfl (by decide) rfl ?_
                obtain ⟨v22, e_v22, hf⟩ := kL_e hf
                refine z_iinc (pc := 49) (k0 := 3) (v := v22) (lv' := [(3, .int v22), (2, .int 0), (0, .ref (aR 200)), (1, .int x1)]) E dX5_every_49 rfl e_v22 (by decide) rfl ?_
                refine z_goto (pc := 52) (tgt := 8) E dX5_every_52 (by decide) ?_
                refine z_sub [2, 3, 1, 0] (lv' := [(0, .ref (aR 200)), (1, .int x1), (2, .int 0), (3, .int v22)]) rfl ?_
                exact ih8 S_19 x1 0 v22 hf
              · have hf := kB_f hf c21
                refine z_iconst (pc := 43) (v := 1) E dX5_every_43 (by decide) ?_
                refine z_goto (pc := 44) (tgt := 48) E dX5_every_44 (by decide) ?_
                refine z_istore_n (pc := 48) (lv' := [(2, .int 1), (0, .ref (aR 200)), (1, .int x1), (3, .int x3)]) E dX5_every_48 rfl (by decide) rfl ?_
                obtain ⟨v23, e_v23, hf⟩ := kL_e hf
                refine z_iinc (pc := 49) (k0 := 3) (v := v23) (lv' := [(3, .int v23), (2, .int 1), (0, .ref (aR 200)), (1, .int x1)]) E dX5_every_49 rfl e_v23 (by decide) rfl ?_
                refine z_goto (pc := 52) (tgt := 8) E dX5_every_52 (by decide) ?_
                refine z_sub [2, 3, 1, 0] (lv' := [(0, .ref (aR 200)), (1, .int x1), (2, .int 1), (3, .int v23)]) rfl ?_
                exact ih8 S_19 x1 1 v23 hf
  unfold f_X5_every_v0 at hf
  refine z_aload_n (pc := 0) (k0 := 0) E dX5_every_0 rfl rfl ?_
  refine z_iload_n (pc := 1) (k0 := 1) E dX5_every_1 rfl rfl ?_
  obtain ⟨r1, S_2, h3, hf⟩ := kD_e hf
  refine z_callVE (pc := 2) (is := [0]) (n := 1) (As := [.int a1]) (st := []) (st' := [.int r1]) (C2 := [wR aR ct S_2]) E hEnv (c_X5_factor_v0 (adK := adK) (adV := adV) (tA := tA) (l := l) (G := G) (ct := ct) (aR := aR) h3) wv_X5_factor wd_24_20 ⟨Nat.le_of_ble_eq_true rfl, Nat.le_of_ble_eq_true rfl, Nat.le_of_ble_eq_true rfl, Nat.le_of_ble_eq_true rfl⟩ rfl rfl rfl (by decide) rfl rfl (z_rdr (i := 0) E rfl) rfl (Nat.le_of_ble_eq_true rfl) dX5_every_2 rfl rfl ?_
  refine z_istore_n (pc := 5) (lv' := [(2, .int r1), (0, .ref (aR 200)), (1, .int a1)]) E dX5_every_5 rfl (by decide) rfl ?_
  refine z_iconst (pc := 6) (v := 0) E dX5_every_6 (by decide) ?_
  refine z_istore_n (pc := 7) (lv' := [(3, .int 0), (2, .int r1), (0, .ref (aR 200)), (1, .int a1)]) E dX5_every_7 rfl (by decide) rfl ?_
  refine z_sub [2, 3, 1, 0] (lv' := [(0, .ref (aR 200)), (1, .int a1), (2, .int r1), (3, .int 0)]) rfl ?_
  exact L8 N S_2 a1 r1 0 hf
noncomputable def f_X5_either_v0_l8 (N : Nat) : Nat → zRS → Int32 → Int32 → Int32 → Option (Int32 × zRS) := fun n => Nat.rec (motive := fun _ => zRS → Int32 → Int32 → Int32 → Option (Int32 × zRS)) (fun _ _ _ _ => none) (fun _ ih SR x1 x2 x3 => kB (100 ≤ x3) (kO (x2 = 0 ∨ x2 = 1) (some (x2, SR))) (kB (x2 = 0) (kO (x2 = 0 ∨ x2 = 1) (some (x2, SR))) (kD (f_X5_takes SR 124) (fun r8 S_9 => kB (r8 = 0) (kO (x2 = 0 ∨ x2 = 1) (some (x2, S_9))) (kD (f_X5_every_v0 N S_9 x1) (fun r13 S_14 => kB (r13 = 0) (kL (x3 + 1) (fun v17 => ih S_14 x1 0 v17)) (kD (f_X5_puts S_14 3) (fun r18 S_19 => kB (r18 = 0) (kL (x3 + 1) (fun v22 => ih S_19 x1 0 v22)) (kL (x3 + 1) (fun v23 => ih S_19 x1 1 v23)))))))))) n
theorem f_X5_either_v0_l8_z (N : Nat) (SR : zRS) (x1 : Int32) (x2 : Int32) (x3 : Int32) : f_X5_either_v0_l8 N 0 SR x1 x2 x3 = none := rfl
theorem f_X5_either_v0_l8_s (N : Nat) (n : Nat) (SR : zRS) (x1 : Int32) (x2 : Int32) (x3 : Int32) : f_X5_either_v0_l8 N (n + 1) SR x1 x2 x3 = kB (100 ≤ x3) (kO (x2 = 0 ∨ x2 = 1) (some (x2, SR))) (kB (x2 = 0) (kO (x2 = 0 ∨ x2 = 1) (some (x2, SR))) (kD (f_X5_takes SR 124) (fun r8 S_9 => kB (r8 = 0) (kO (x2 = 0 ∨ x2 = 1) (some (x2, S_9))) (kD (f_X5_every_v0 N S_9 x1) (fun r13 S_14 => kB (r13 = 0) (kL (x3 + 1) (fun v17 => (f_X5_either_v0_l8 N n) S_14 x1 0 v17)) (kD (f_X5_puts S_14 3) (fun r18 S_19 => kB (r18 = 0) (kL (x3 + 1) (fun v22 => (f_X5_either_v0_l8 N n) S_19 x1 0 v22)) (kL (x3 + 1) (fun v23 => (f_X5_either_v0_l8 N n) S_19 x1 1 v23))))))))) := rfl
noncomputable def f_X5_either_v0 (N : Nat) (SR : zRS) (a1 : Int32) : Option (Int32 × zRS) := kD (f_X5_every_v0 N SR a1) (fun r1 S_2 => f_X5_either_v0_l8 N N S_2 a1 r1 0)
def rm_X5_either_v0 : Room := { frames := 20, cells := 0, slots := 0, locals := 537 }
set_option maxHeartbeats 4000000 in
set_option maxRecDepth 100000 in
theorem c_X5_either_v0 {adK adV : Nat → Nat} {tA : Nat} {l : Launch} {G : va_G} {ct : Nat → ClassId} {aR : Nat → Nat} {N : Nat} {SR : zRS} {a1 : Int32} {r0 : Int32} {OR : zRS} (hf : f_X5_either_v0 N SR a1 = some (r0, OR)) : zCE adK adV tA l yX5_either cX5_either 4 (some .boolean) rm_X5_either_v0 G ct [.ref (aR 200), .int a1] [wR aR ct SR] [wR aR ct OR] (some (.int r0)) 0 0 := by
  refine z_enterE (own := RX5) (lv := [(0, .ref (aR 200)), (1, .int a1)]) (by decide) rfl (Nat.le_of_ble_eq_true rfl) rfl ?_
  intro p e s m args below meth c A E hr hnm hEnv
  have L8 : ∀ (n8 : Nat) (SR : zRS) (x1 : Int32) (x2 : Int32) (x3 : Int32), f_X5_either_v0_l8 N n8 SR x1 x2 x3 = some (r0, OR) → zJ p l e rm_X5_either_v0 s m args below meth c (zQ G ct (some (.int r0)) [wR aR ct OR] A below args s 0 0) A G 4 0 0 [wR aR ct SR] [(0, .ref (aR 200)), (1, .int x1), (2, .int x2), (3, .int x3)] 8 [] := by
    intro n8
    induction n8 with
    | zero =>
      intro SR x1 x2 x3 hf
      rw [f_X5_either_v0_l8_z] at hf
      cases hf
    | succ n8 ih8 =>
      intro SR x1 x2 x3 hf
      rw [f_X5_either_v0_l8_s] at hf
      refine z_iload_n (pc := 8) (k0 := 3) E dX5_either_8 rfl rfl ?_
      refine z_bipush (pc := 9) (v := 100) E dX5_either_9 (by decide) ?_
      refine z_icmp_ge (pc := 11) (tgt := 55) E dX5_either_11 (by decide) (fun c4 => ?_) (fun c4 => ?_)
      · have hf := kB_t hf c4
        refine z_iload_n (pc := 55) (k0 := 2) E dX5_either_55 rfl rfl ?_
        obtain ⟨c5, hf⟩ := kO_e hf
        cases hf
        exact z_zret E hr c5 dX5_either_56
      · have hf := kB_f hf c4
        refine z_iload_n (pc := 14) (k0 := 2) E dX5_either_14 rfl rfl ?_
        refine z_if_eq (pc := 15) (tgt := 55) E dX5_either_15 (by decide) (fun c6 => ?_) (fun c6 => ?_)
        · have hf := kB_t hf c6
          refine z_iload_n (pc := 55) (k0 := 2) E dX5_either_55 rfl rfl ?_
          obtain ⟨c7, hf⟩ := kO_e hf
          cases hf
          exact z_zret E hr c7 dX5_either_56
        · have hf := kB_f hf c6
          refine z_aload_n (pc := 18) (k0 := 0) E dX5_either_18 rfl rfl ?_
          refine z_bipush (pc := 19) (v := 124) E dX5_either_19 (by decide) ?_
          obtain ⟨r8, S_9, h10, hf⟩ := kD_e hf
          refine z_callV0 (pc := 21) (is := [0]) (n := 1) (As := [.int 124]) (st := []) (st' := [.int r8]) (C2 := [wR aR ct S_9]) E (c_X5_takes (l := l) (G := G) (ct := ct) (aR := aR) h10) wv_X5_takes wd_21_0 ⟨Nat.le_of_ble_eq_true rfl, Nat.le_of_ble_eq_true rfl, Nat.le_of_ble_eq_true rfl, Nat.le_of_ble_eq_true rfl⟩ rfl rfl rfl (by decide) rfl rfl (zrR (j := 0) rfl) rfl (Nat.le_of_ble_eq_true rfl) dX5_either_21 rfl rfl ?_
          refine z_if_eq (pc := 24) (tgt := 55) E dX5_either_24 (by decide) (fun c11 => ?_) (fun c11 => ?_)
          · have hf := kB_t hf c11
            refine z_iload_n (pc := 55) (k0 := 2) E dX5_either_55 rfl rfl ?_
            obtain ⟨c12, hf⟩ := kO_e hf
            cases hf
            exact z_zret E hr c12 dX5_either_56
          · have hf := kB_f hf c11
            refine z_aload_n (pc := 27) (k0 := 0) E dX5_either_27 rfl rfl ?_
            refine z_iload_n (pc := 28) (k0 := 1) E dX5_either_28 rfl rfl ?_
            obtain ⟨r13, S_14, h15, hf⟩ := kD_e hf
            refine z_callVE (pc := 29) (is := [0]) (n := 1) (As := [.int x1]) (st := []) (st' := [.int r13]) (C2 := [wR aR ct S_14]) E hEnv (c_X5_every_v0 (adK := adK) (adV := adV) (tA := tA) (l := l) (G := G) (ct := ct) (aR := aR) h15) wv_X5_every wd_24_12 ⟨Nat.le_of_ble_eq_true rfl, Nat.le_of_ble_eq_true rfl, Nat.le_of_ble_eq_true rfl, Nat.le_of_ble_eq_true rfl⟩ rfl rfl rfl (by decide) rfl rfl (z_rdr (i := 0) E rfl) rfl (Nat.le_of_ble_eq_true rfl) dX5_either_29 rfl rfl ?_
            refine z_if_eq (pc := 32) (tgt := 47) E dX5_either_32 (by decide) (fun c16 => ?_) (fun c16 => ?_)
            · have hf := kB_t hf c16
              refine z_iconst (pc := 47) (v := 0) E dX5_either_47 (by decide) ?_
              refine z_istore_n (pc := 48) (lv' := [(2, .int 0), (0, .ref (aR 200)), (1, .int x1), (3, .int x3)]) E dX5_either_48 rfl (by decide) rfl ?_
              obtain ⟨v17, e_v17, hf⟩ := kL_e hf
              refine z_iinc (pc := 49) (k0 := 3) (v := v17) (lv' := [(3, .int v17), (2, .int 0), (0, .ref (aR 200)), (1, .int x1)]) E dX5_either_49 rfl e_v17 (by decide) rfl ?_
              refine z_goto (pc := 52) (tgt := 8) E dX5_either_52 (by decide) ?_
              refine z_sub [2, 3, 1, 0] (lv' := [(0, .ref (aR 200)), (1, .int x1), (2, .int 0), (3, .int v17)]) rfl ?_
              exact ih8 S_14 x1 0 v17 hf
            · have hf := kB_f hf c16
              refine z_aload_n (pc := 35) (k0 := 0) E dX5_either_35 rfl rfl ?_
              refine z_iconst (pc := 36) (v := 3) E dX5_either_36 (by decide) ?_
              obtain ⟨r18, S_19, h20, hf⟩ := kD_e hf
              refine z_callV0 (pc := 37) (is := [0]) (n := 1) (As := [.int 3]) (st := []) (st' := [.int r18]) (C2 := [wR aR ct S_19]) E (c_X5_puts (l := l) (G := G) (ct := ct) (aR := aR) h20) wv_X5_puts wd_24_15 ⟨Nat.le_of_ble_eq_true rfl, Nat.le_of_ble_eq_true rfl, Nat.le_of_ble_eq_true rfl, Nat.le_of_ble_eq_true rfl⟩ rfl rfl rfl (by decide) rfl rfl (zrR (j := 0) rfl) rfl (Nat.le_of_ble_eq_true rfl) dX5_either_37 rfl rfl ?_
              refine z_if_eq (pc := 40) (tgt := 47) E dX5_either_40 (by decide) (fun c21 => ?_) (fun c21 => ?_)
              · have hf := kB_t hf c21
                refine z_iconst (pc := 47) (v := 0) E dX5_either_47 (by decide) ?_
                refine z_istore_n (pc := 48) (lv' := [(2, .int 0), (0, .ref (aR 200)), (1, .int x1), (3, .int x3)]) E dX5_either_48 rfl (by decide) rfl ?_
                obtain ⟨v22, e_v22, hf⟩ := kL_e hf
                refine z_iinc (pc := 49) (k0 := 3) (v := v22) (lv' := [(3, .int v22), (2, .int 0), (0, .ref (aR 200)), (1, .int x1)]) E dX5_either_49 rfl e_v22 (by decide) rfl ?_
                refine z_goto (pc := 52) (tgt := 8) E dX5_either_52 (by decide) ?_
                refine z_sub [2, 3, 1, 0] (lv' := [(0, .ref (aR 200)), (1, .int x1), (2, .int 0), (3, .int v22)]) rfl ?_
                exact ih8 S_19 x1 0 v22 hf
              · have hf := kB_f hf c21
                refine z_iconst (pc := 43) (v := 1) E dX5_either_43 (by decide) ?_
                refine z_goto (pc := 44) (tgt := 48) E dX5_either_44 (by decide) ?_
                refine z_istore_n (pc := 48) (lv' := [(2, .int 1), (0, .ref (aR 200)), (1, .int x1), (3, .int x3)]) E dX5_either_48 rfl (by decide) rfl ?_
                obtain ⟨v23, e_v23, hf⟩ := kL_e hf
                refine z_iinc (pc := 49) (k0 := 3) (v := v23) (lv' := [(3, .int v23), (2, .int 1), (0, .ref (aR 200)), (1, .int x1)]) E dX5_either_49 rfl e_v23 (by decide) rfl ?_
                refine z_goto (pc := 52) (tgt := 8) E dX5_either_52 (by decide) ?_
                refine z_sub [2, 3, 1, 0] (lv' := [(0, .ref (aR 200)), (1, .int x1), (2, .int 1), (3, .int v23)]) rfl ?_
                exact ih8 S_19 x1 1 v23 hf
  unfold f_X5_either_v0 at hf
  refine z_aload_n (pc := 0) (k0 := 0) E dX5_either_0 rfl rfl ?_
  refine z_iload_n (pc := 1) (k0 := 1) E dX5_either_1 rfl rfl ?_
  obtain ⟨r1, S_2, h3, hf⟩ := kD_e hf
  refine z_callVE (pc := 2) (is := [0]) (n := 1) (As := [.int a1]) (st := []) (st' := [.int r1]) (C2 := [wR aR ct S_2]) E hEnv (c_X5_every_v0 (adK := adK) (adV := adV) (tA := tA) (l := l) (G := G) (ct := ct) (aR := aR) h3) wv_X5_every wd_24_12 ⟨Nat.le_of_ble_eq_true rfl, Nat.le_of_ble_eq_true rfl, Nat.le_of_ble_eq_true rfl, Nat.le_of_ble_eq_true rfl⟩ rfl rfl rfl (by decide) rfl rfl (z_rdr (i := 0) E rfl) rfl (Nat.le_of_ble_eq_true rfl) dX5_either_2 rfl rfl ?_
  refine z_istore_n (pc := 5) (lv' := [(2, .int r1), (0, .ref (aR 200)), (1, .int a1)]) E dX5_either_5 rfl (by decide) rfl ?_
  refine z_iconst (pc := 6) (v := 0) E dX5_either_6 (by decide) ?_
  refine z_istore_n (pc := 7) (lv' := [(3, .int 0), (2, .int r1), (0, .ref (aR 200)), (1, .int a1)]) E dX5_either_7 rfl (by decide) rfl ?_
  refine z_sub [2, 3, 1, 0] (lv' := [(0, .ref (aR 200)), (1, .int a1), (2, .int r1), (3, .int 0)]) rfl ?_
  exact L8 N S_2 a1 r1 0 hf
noncomputable def f_X5_clause_b59 (N : Nat) (SR : zRS) (x1 : Int32) (x2 : Int32) : Option (Int32 × zRS) := kB ((SR.1 8) < 10) (kO (¬ ((SR.1 8) < 0 ∨ 10 ≤ Int32.toNatClampNeg (SR.1 8))) (kL (rSA SR 2 (upd (SR.2 2) (Int32.toNatClampNeg (SR.1 8)) x1)) (fun SR_25 => kO (¬ ((SR_25.1 8) < 0 ∨ 10 ≤ Int32.toNatClampNeg (SR_25.1 8))) (kL (rSA SR_25 3 (upd (SR_25.2 3) (Int32.toNatClampNeg (SR_25.1 8)) x2)) (fun SR_27 => kL ((SR_27.1 8) + 1) (fun v28 => kL (rSI SR_27 8 v28) (fun SR_29 => kO (¬ ((SR_27.1 8) < 0 ∨ 10 ≤ Int32.toNatClampNeg (SR_27.1 8))) (kL (rSA SR_29 4 (upd (SR_29.2 4) (Int32.toNatClampNeg (SR_27.1 8)) (SR_29.1 7))) (fun SR_31 => some (1, SR_31)))))))))) (some (0, SR))
noncomputable def f_X5_clause_b40 (N : Nat) (SR : zRS) (x1 : Int32) (x2 : Int32) : Option (Int32 × zRS) := kD (f_X5_takes SR 32) (fun r15 S_16 => kB (r15 = 0) (some (0, S_16)) (kD (f_X5_either_v0 N S_16 0) (fun r19 S_20 => kB (r19 = 0) (some (0, S_20)) (f_X5_clause_b59 N S_20 x1 x2))))
noncomputable def f_X5_clause (N : Nat) (SR : zRS) : Option (Int32 × zRS) := kD (f_X5_word N SR) (fun r1 S_2 => kB (r1 < 0) (some (0, S_2)) (kD (f_X5_takes S_2 32) (fun r5 S_6 => kB (r5 = 0) (some (0, S_6)) (kD (f_X5_number N S_6) (fun r9 S_10 => kB (0 ≤ r9) (kB (r1 = 0) (f_X5_clause_b40 N S_10 r1 r9) (kB (r1 = 1) (f_X5_clause_b40 N S_10 r1 r9) (f_X5_clause_b59 N S_10 r1 r9))) (some (0, S_10)))))))
theorem wv_X5_clause : zWV RX5 yX5_clause cX5_clause 3 (some .boolean) 0 := ⟨wd_19_0, wd_19_1, wd_2_0, wd_19_2, by decide +kernel⟩
def rm_X5_clause : Room := { frames := 21, cells := 0, slots := 0, locals := 560 }
set_option maxHeartbeats 4000000 in
set_option maxRecDepth 100000 in
theorem c_X5_clause {adK adV : Nat → Nat} {tA : Nat} {l : Launch} {G : va_G} {ct : Nat → ClassId} {aR : Nat → Nat} {N : Nat} {SR : zRS} {r0 : Int32} {OR : zRS} (hf : f_X5_clause N SR = some (r0, OR)) : zCE adK adV tA l yX5_clause cX5_clause 3 (some .boolean) rm_X5_clause G ct [.ref (aR 200)] [wR aR ct SR] [wR aR ct OR] (some (.int r0)) 0 0 := by
  refine z_enterE (own := RX5) (lv := [(0, .ref (aR 200))]) (by decide) rfl (Nat.le_of_ble_eq_true rfl) rfl ?_
  intro p e s m args below meth c A E hr hnm hEnv
  have B59 : ∀ (SR : zRS) (x1 : Int32) (x2 : Int32), f_X5_clause_b59 N SR x1 x2 = some (r0, OR) → zJ p l e rm_X5_clause s m args below meth c (zQ G ct (some (.int r0)) [wR aR ct OR] A below args s 0 0) A G 3 0 0 [wR aR ct SR] [(0, .ref (aR 200)), (1, .int x1), (2, .int x2)] 59 [] := by
    intro SR x1 x2 hf
    unfold f_X5_clause_b59 at hf
    refine z_aload_n (pc := 59) (k0 := 0) E dX5_clause_59 rfl rfl ?_
    refine gR_8 (pc := 60) (i := 0) E rfl wd_18_21 dX5_clause_60 ?_
    refine z_bipush (pc := 63) (v := 10) E dX5_clause_63 (by decide) ?_
    refine z_icmp_lt (pc := 65) (tgt := 70) E dX5_clause_65 (by decide) (fun c23 => ?_) (fun c23 => ?_)
    · have hf := kB_t hf c23
      refine z_aload_n (pc := 70) (k0 := 0) E dX5_clause_70 rfl rfl ?_
      refine gR_2 (pc := 71) (i := 0) E rfl wd_3_12 dX5_clause_71 ?_
      refine z_aload_n (pc := 74) (k0 := 0) E dX5_clause_74 rfl rfl ?_
      refine gR_8 (pc := 75) (i := 0) E rfl wd_18_21 dX5_clause_75 ?_
      refine z_iload_n (pc := 78) (k0 := 1) E dX5_clause_78 rfl rfl ?_
      obtain ⟨c24, hf⟩ := kO_e hf
      obtain ⟨SR_25, e_SR_25, hf⟩ := kL_e hf
      refine sR_2 (pc := 79) (i := 0) (S1 := SR_25) E rfl c24 e_SR_25 dX5_clause_79 ?_
      show zJ p l e rm_X5_clause s m args below meth c (zQ G ct (some (.int r0)) [wR aR ct OR] A below args s 0 0) A G 3 0 0 [wR aR ct SR_25] [(0, .ref (aR 200)), (1, .int x1), (2, .int x2)] 80 []
      refine z_aload_n (pc := 80) (k0 := 0) E dX5_clause_80 rfl rfl ?_
      refine gR_3 (pc := 81) (i := 0) E rfl wd_3_13 dX5_clause_81 ?_
      refine z_aload_n (pc := 84) (k0 := 0) E dX5_clause_84 rfl rfl ?_
      refine gR_8 (pc := 85) (i := 0) E rfl wd_18_21 dX5_clause_85 ?_
      refine z_iload_n (pc := 88) (k0 := 2) E dX5_clause_88 rfl rfl ?_
      obtain ⟨c26, hf⟩ := kO_e hf
      obtain ⟨SR_27, e_SR_27, hf⟩ := kL_e hf
      refine sR_3 (pc := 89) (i := 0) (S1 := SR_27) E rfl c26 e_SR_27 dX5_clause_89 ?_
      show zJ p l e rm_X5_clause s m args below meth c (zQ G ct (some (.int r0)) [wR aR ct OR] A below args s 0 0) A G 3 0 0 [wR aR ct SR_27] [(0, .ref (aR 200)), (1, .int x1), (2, .int x2)] 90 []
      refine z_aload_n (pc := 90) (k0 := 0) E dX5_clause_90 rfl rfl ?_
      refine gR_4 (pc := 91) (i := 0) E rfl wd_3_14 dX5_clause_91 ?_
      refine z_aload_n (pc := 94) (k0 := 0) E dX5_clause_94 rfl rfl ?_
      refine z_dup (pc := 95) E dX5_clause_95 rfl ?_
      refine gR_8 (pc := 96) (i := 0) E rfl wd_18_21 dX5_clause_96 ?_
      refine z_dup_x1 (pc := 99) E dX5_clause_99 rfl rfl ?_
      refine z_iconst (pc := 100) (v := 1) E dX5_clause_100 (by decide) ?_
      obtain ⟨v28, e_v28, hf⟩ := kL_e hf
      refine z_iadd (pc := 101) (v := v28) E dX5_clause_101 e_v28 ?_
      obtain ⟨SR_29, e_SR_29, hf⟩ := kL_e hf
      refine pR_8 (pc := 102) (i := 0) (S1 := SR_29) E rfl e_SR_29 wd_18_21 dX5_clause_102 ?_
      show zJ p l e rm_X5_clause s m args below meth c (zQ G ct (some (.int r0)) [wR aR ct OR] A below args s 0 0) A G 3 0 0 [wR aR ct SR_29] [(0, .ref (aR 200)), (1, .int x1), (2, .int x2)] 105 [.int (SR_27.1 8), .ref (aR 4)]
      refine z_aload_n (pc := 105) (k0 := 0) E dX5_clause_105 rfl rfl ?_
      refine gR_7 (pc := 106) (i := 0) E rfl wd_18_20 dX5_clause_106 ?_
      obtain ⟨c30, hf⟩ := kO_e hf
      obtain ⟨SR_31, e_SR_31, hf⟩ := kL_e hf
      refine sR_4 (pc := 109) (i := 0) (S1 := SR_31) E rfl c30 e_SR_31 dX5_clause_109 ?_
      show zJ p l e rm_X5_clause s m args below meth c (zQ G ct (some (.int r0)) [wR aR ct OR] A below args s 0 0) A G 3 0 0 [wR aR ct SR_31] [(0, .ref (aR 200)), (1, .int x1), (2, .int x2)] 110 []
      refine z_iconst (pc := 110) (v := 1) E dX5_clause_110 (by decide) ?_
      cases hf
      exact z_zret E hr (by decide) dX5_clause_111
    · have hf := kB_f hf c23
      refine z_iconst (pc := 68) (v := 0) E dX5_clause_68 (by decide) ?_
      cases hf
      exact z_zret E hr (by decide) dX5_clause_69
  have B40 : ∀ (SR : zRS) (x1 : Int32) (x2 : Int32), f_X5_clause_b40 N SR x1 x2 = some (r0, OR) → zJ p l e rm_X5_clause s m args below meth c (zQ G ct (some (.int r0)) [wR aR ct OR] A below args s 0 0) A G 3 0 0 [wR aR ct SR] [(0, .ref (aR 200)), (1, .int x1), (2, .int x2)] 40 [] := by
    intro SR x1 x2 hf
    unfold f_X5_clause_b40 at hf
    refine z_aload_n (pc := 40) (k0 := 0) E dX5_clause_40 rfl rfl ?_
    refine z_bipush (pc := 41) (v := 32) E dX5_clause_41 (by decide) ?_
    obtain ⟨r15, S_16, h17, hf⟩ := kD_e hf
    refine z_callV0 (pc := 43) (is := [0]) (n := 1) (As := [.int 32]) (st := []) (st' := [.int r15]) (C2 := [wR aR ct S_16]) E (c_X5_takes (l := l) (G := G) (ct := ct) (aR := aR) h17) wv_X5_takes wd_21_0 ⟨Nat.le_of_ble_eq_true rfl, Nat.le_of_ble_eq_true rfl, Nat.le_of_ble_eq_true rfl, Nat.le_of_ble_eq_true rfl⟩ rfl rfl rfl (by decide) rfl rfl (zrR (j := 0) rfl) rfl (Nat.le_of_ble_eq_true rfl) dX5_clause_43 rfl rfl ?_
    refine z_if_eq (pc := 46) (tgt := 57) E dX5_clause_46 (by decide) (fun c18 => ?_) (fun c18 => ?_)
    · have hf := kB_t hf c18
      refine z_iconst (pc := 57) (v := 0) E dX5_clause_57 (by decide) ?_
      cases hf
      exact z_zret E hr (by decide) dX5_clause_58
    · have hf := kB_f hf c18
      refine z_aload_n (pc := 49) (k0 := 0) E dX5_clause_49 rfl rfl ?_
      refine z_iconst (pc := 50) (v := 0) E dX5_clause_50 (by decide) ?_
      obtain ⟨r19, S_20, h21, hf⟩ := kD_e hf
      refine z_callVE (pc := 51) (is := [0]) (n := 1) (As := [.int 0]) (st := []) (st' := [.int r19]) (C2 := [wR aR ct S_20]) E hEnv (c_X5_either_v0 (adK := adK) (adV := adV) (tA := tA) (l := l) (G := G) (ct := ct) (aR := aR) h21) wv_X5_either wd_24_8 ⟨Nat.le_of_ble_eq_true rfl, Nat.le_of_ble_eq_true rfl, Nat.le_of_ble_eq_true rfl, Nat.le_of_ble_eq_true rfl⟩ rfl rfl rfl (by decide) rfl rfl (z_rdr (i := 0) E rfl) rfl (Nat.le_of_ble_eq_true rfl) dX5_clause_51 rfl rfl ?_
      refine z_if_ne (pc := 54) (tgt := 59) E dX5_clause_54 (by decide) (fun c22 => ?_) (fun c22 => ?_)
      · have hf := kB_f hf c22
        exact B59 S_20 x1 x2 hf
      · have hf := kB_t hf c22
        refine z_iconst (pc := 57) (v := 0) E dX5_clause_57 (by decide) ?_
        cases hf
        exact z_zret E hr (by decide) dX5_clause_58
  unfold f_X5_clause at hf
  refine z_aload_n (pc := 0) (k0 := 0) E dX5_clause_0 rfl rfl ?_
  obtain ⟨r1, S_2, h3, hf⟩ := kD_e hf
  refine z_callVE (pc := 1) (is := [0]) (n := 0) (As := []) (st := []) (st' := [.int r1]) (C2 := [wR aR ct S_2]) E hEnv (c_X5_word (adK := adK) (adV := adV) (tA := tA) (l := l) (G := G) (ct := ct) (aR := aR) h3) wv_X5_word wd_19_3 ⟨Nat.le_of_ble_eq_true rfl, Nat.le_of_ble_eq_true rfl, Nat.le_of_ble_eq_true rfl, Nat.le_of_ble_eq_true rfl⟩ rfl rfl rfl (by decide) rfl rfl (z_rdr (i := 0) E rfl) rfl (Nat.le_of_ble_eq_true rfl) dX5_clause_1 rfl rfl ?_
  refine z_istore_n (pc := 4) (lv' := [(1, .int r1), (0, .ref (aR 200))]) E dX5_clause_4 rfl (by decide) rfl ?_
  refine z_iload_n (pc := 5) (k0 := 0) E dX5_clause_5 rfl rfl ?_
  refine z_if_lt (pc := 6) (tgt := 18) E dX5_clause_6 (by decide) (fun c4 => ?_) (fun c4 => ?_)
  · have hf := kB_t hf c4
    refine z_iconst (pc := 18) (v := 0) E dX5_clause_18 (by decide) ?_
    cases hf
    exact z_zret E hr (by decide) dX5_clause_19
  · have hf := kB_f hf c4
    refine z_aload_n (pc := 9) (k0 := 1) E dX5_clause_9 rfl rfl ?_
    refine z_bipush (pc := 10) (v := 32) E dX5_clause_10 (by decide) ?_
    obtain ⟨r5, S_6, h7, hf⟩ := kD_e hf
    refine z_callV0 (pc := 12) (is := [0]) (n := 1) (As := [.int 32]) (st := []) (st' := [.int r5]) (C2 := [wR aR ct S_6]) E (c_X5_takes (l := l) (G := G) (ct := ct) (aR := aR) h7) wv_X5_takes wd_21_0 ⟨Nat.le_of_ble_eq_true rfl, Nat.le_of_ble_eq_true rfl, Nat.le_of_ble_eq_true rfl, Nat.le_of_ble_eq_true rfl⟩ rfl rfl rfl (by decide) rfl rfl (zrR (j := 0) rfl) rfl (Nat.le_of_ble_eq_true rfl) dX5_clause_12 rfl rfl ?_
    refine z_if_ne (pc := 15) (tgt := 20) E dX5_clause_15 (by decide) (fun c8 => ?_) (fun c8 => ?_)
    · have hf := kB_f hf c8
      refine z_aload_n (pc := 20) (k0 := 1) E dX5_clause_20 rfl rfl ?_
      obtain ⟨r9, S_10, h11, hf⟩ := kD_e hf
      refine z_callVE (pc := 21) (is := [0]) (n := 0) (As := []) (st := []) (st' := [.int r9]) (C2 := [wR aR ct S_10]) E hEnv (c_X5_number (adK := adK) (adV := adV) (tA := tA) (l := l) (G := G) (ct := ct) (aR := aR) h11) wv_X5_number wd_21_4 ⟨Nat.le_of_ble_eq_true rfl, Nat.le_of_ble_eq_true rfl, Nat.le_of_ble_eq_true rfl, Nat.le_of_ble_eq_true rfl⟩ rfl rfl rfl (by decide) rfl rfl (z_rdr (i := 0) E rfl) rfl (Nat.le_of_ble_eq_true rfl) dX5_clause_21 rfl rfl ?_
      refine z_istore_n (pc := 24) (lv' := [(2, .int r9), (1, .int r1), (0, .ref (aR 200))]) E dX5_clause_24 rfl (by decide) rfl ?_
      refine z_iload_n (pc := 25) (k0 := 0) E dX5_clause_25 rfl rfl ?_
      refine z_if_ge (pc := 26) (tgt := 31) E dX5_clause_26 (by decide) (fun c12 => ?_) (fun c12 => ?_)
      · have hf := kB_t hf c12
        refine z_iload_n (pc := 31) (k0 := 1) E dX5_clause_31 rfl rfl ?_
        refine z_if_eq (pc := 32) (tgt := 40) E dX5_clause_32 (by decide) (fun c13 => ?_) (fun c13 => ?_)
        · have hf := kB_t hf c13
          refine z_sub [2, 1, 0] (lv' := [(0, .ref (aR 200)), (1, .int r1), (2, .int r9)]) rfl ?_
          exact B40 S_10 r1 r9 hf
        · have hf := kB_f hf c13
          refine z_iload_n (pc := 35) (k0 := 1) E dX5_clause_35 rfl rfl ?_
          refine z_iconst (pc := 36) (v := 1) E dX5_clause_36 (by decide) ?_
          refine z_icmp_ne (pc := 37) (tgt := 59) E dX5_clause_37 (by decide) (fun c14 => ?_) (fun c14 => ?_)
          · have hf := kB_f hf c14
            refine z_sub [2, 1, 0] (lv' := [(0, .ref (aR 200)), (1, .int r1), (2, .int r9)]) rfl ?_
            exact B59 S_10 r1 r9 hf
          · have hf := kB_t hf c14
            refine z_sub [2, 1, 0] (lv' := [(0, .ref (aR 200)), (1, .int r1), (2, .int r9)]) rfl ?_
            exact B40 S_10 r1 r9 hf
      · have hf := kB_f hf c12
        refine z_iconst (pc := 29) (v := 0) E dX5_clause_29 (by decide) ?_
        cases hf
        exact z_zret E hr (by decide) dX5_clause_30
    · have hf := kB_t hf c8
      refine z_iconst (pc := 18) (v := 0) E dX5_clause_18 (by decide) ?_
      cases hf
      exact z_zret E hr (by decide) dX5_clause_19
