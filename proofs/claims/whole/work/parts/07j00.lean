section ZRD
theorem z_rdr {p : Program} {s : State} {m : MethodId} {args : Array Value} {meth : Method} {c : Code} {A : Nat → Prop} {G : va_G} {ct : Nat → ClassId} {nL : Nat} {cc : ByteArray} {own : String} {Cs : List va_W} {aR : Nat → Nat} {S : zRS} {i : Nat} (E : zE p s m args meth c A G ct nL cc own) (hi : Cs[i]? = some (wR aR ct S)) : ∀ (H : Heap) (locs : List Loc), va_P G vwCl (zfl Cs) H → va_S A s.heap H locs → ∃ cellB : Cell, H[aR 200]? = some cellB ∧ cellB.vm.isStatics = false ∧ s.vm.findClass RX5 = some cellB.cls := fun H _ hP _ => by
  obtain ⟨q0, h0, -⟩ := zfl_cell (j := 0) hi rfl
  exact va_recv E.2.2.2.2.2.1 hP (ci := 5) rfl h0
end ZRD
noncomputable def f_J0_coder_7d493 (i0 : Nat) : Option Int32 := kO (i0 < 4) (some (0))
theorem wv_J0_coder_7d493 : zWV RJ0 yJ0_coder_7d493 cJ0_coder_7d493 1 (some .byte) 0 := ⟨wd_22_1, wd_22_2, wd_19_10, wd_22_3, by decide +kernel⟩
def rm_J0_coder_7d493 : Room := { frames := 0, cells := 0, slots := 0, locals := 0 }
set_option maxHeartbeats 4000000 in
set_option maxRecDepth 100000 in
theorem c_J0_coder_7d493 {adK adV : Nat → Nat} {tA : Nat} {l : Launch} {G : va_G} {ct : Nat → ClassId} {i0 : Nat} {r0 : Int32} (hf : f_J0_coder_7d493 i0 = some r0) : zCE adK adV tA l yJ0_coder_7d493 cJ0_coder_7d493 1 (some .byte) rm_J0_coder_7d493 G ct [.ref (adK i0)] [] [] (some (.int r0)) 0 0 := by
  refine z_enterE (own := RJ0) (lv := [(0, .ref (adK i0))]) (by decide) rfl (Nat.le_of_ble_eq_true rfl) rfl ?_
  intro p e s m args below meth c A E hr hnm hEnv
  unfold f_J0_coder_7d493 at hf
  obtain ⟨hi0, hf⟩ := kO_e hf
  refine z_compact (pc := 0) E hEnv wd_19_17 dJ0_coder_7d493_0 ?_
  refine z_if_eq (pc := 3) (tgt := 13) E dJ0_coder_7d493_3 (by decide) (fun c1 => False.elim (by revert c1; decide)) (fun c1 => ?_)
  refine z_aload_n (pc := 6) (k0 := 0) E dJ0_coder_7d493_6 rfl rfl ?_
  refine z_strc (pc := 7) (i := i0) E hEnv hi0 wd_19_18 dJ0_coder_7d493_7 ?_
  refine z_goto (pc := 10) (tgt := 14) E dJ0_coder_7d493_10 (by decide) ?_
  cases hf
  exact z_bret E hr rfl dJ0_coder_7d493_14
noncomputable def f_J0_isLatin1_aae02 (i0 : Nat) : Option Int32 := kO (i0 < 4) (some (1))
theorem wv_J0_isLatin1_aae02 : zWV RJ0 yJ0_isLatin1_aae02 cJ0_isLatin1_aae02 1 (some .boolean) 0 := ⟨wd_19_14, wd_19_15, wd_19_10, wd_19_16, by decide +kernel⟩
def rm_J0_isLatin1_aae02 : Room := { frames := 0, cells := 0, slots := 0, locals := 0 }
set_option maxHeartbeats 4000000 in
set_option maxRecDepth 100000 in
theorem c_J0_isLatin1_aae02 {adK adV : Nat → Nat} {tA : Nat} {l : Launch} {G : va_G} {ct : Nat → ClassId} {i0 : Nat} {r0 : Int32} (hf : f_J0_isLatin1_aae02 i0 = some r0) : zCE adK adV tA l yJ0_isLatin1_aae02 cJ0_isLatin1_aae02 1 (some .boolean) rm_J0_isLatin1_aae02 G ct [.ref (adK i0)] [] [] (some (.int r0)) 0 0 := by
  refine z_enterE (own := RJ0) (lv := [(0, .ref (adK i0))]) (by decide) rfl (Nat.le_of_ble_eq_true rfl) rfl ?_
  intro p e s m args below meth c A E hr hnm hEnv
  unfold f_J0_isLatin1_aae02 at hf
  obtain ⟨hi0, hf⟩ := kO_e hf
  refine z_compact (pc := 0) E hEnv wd_19_17 dJ0_isLatin1_aae02_0 ?_
  refine z_if_eq (pc := 3) (tgt := 17) E dJ0_isLatin1_aae02_3 (by decide) (fun c1 => False.elim (by revert c1; decide)) (fun c1 => ?_)
  refine z_aload_n (pc := 6) (k0 := 0) E dJ0_isLatin1_aae02_6 rfl rfl ?_
  refine z_strc (pc := 7) (i := i0) E hEnv hi0 wd_19_18 dJ0_isLatin1_aae02_7 ?_
  refine z_if_ne (pc := 10) (tgt := 17) E dJ0_isLatin1_aae02_10 (by decide) (fun c2 => False.elim (by revert c2; decide)) (fun c2 => ?_)
  refine z_iconst (pc := 13) (v := 1) E dJ0_isLatin1_aae02_13 (by decide) ?_
  refine z_goto (pc := 14) (tgt := 18) E dJ0_isLatin1_aae02_14 (by decide) ?_
  cases hf
  exact z_zret E hr (by decide) dJ0_isLatin1_aae02_18
noncomputable def f_J0_length_8abf5 (i0 : Nat) : Option Int32 := kO (i0 < 4) (kL (Int32.ofNat (sLen.getD i0 0)) (fun v1 => kC (f_J0_coder_7d493 i0) (fun r2 => kL (v1 >>> (r2 &&& 31)) (fun v4 => some (v4)))))
theorem wv_J0_length_8abf5 : zWV RJ0 yJ0_length_8abf5 cJ0_length_8abf5 1 (some .int) 0 := ⟨wd_21_21, wd_21_22, wd_19_10, wd_21_23, by decide +kernel⟩
def rm_J0_length_8abf5 : Room := { frames := 1, cells := 0, slots := 0, locals := 20 }
set_option maxHeartbeats 4000000 in
set_option maxRecDepth 100000 in
theorem c_J0_length_8abf5 {adK adV : Nat → Nat} {tA : Nat} {l : Launch} {G : va_G} {ct : Nat → ClassId} {i0 : Nat} {r0 : Int32} (hf : f_J0_length_8abf5 i0 = some r0) : zCE adK adV tA l yJ0_length_8abf5 cJ0_length_8abf5 1 (some .int) rm_J0_length_8abf5 G ct [.ref (adK i0)] [] [] (some (.int r0)) 0 0 := by
  refine z_enterE (own := RJ0) (lv := [(0, .ref (adK i0))]) (by decide) rfl (Nat.le_of_ble_eq_true rfl) rfl ?_
  intro p e s m args below meth c A E hr hnm hEnv
  unfold f_J0_length_8abf5 at hf
  obtain ⟨hi0, hf⟩ := kO_e hf
  refine z_aload_n (pc := 0) (k0 := 0) E dJ0_length_8abf5_0 rfl rfl ?_
  refine z_strv (pc := 1) (i := i0) E hEnv hi0 wd_19_12 dJ0_length_8abf5_1 ?_
  obtain ⟨v1, e_v1, hf⟩ := kL_e hf
  refine z_strl (pc := 4) (i := i0) (v := v1) E hEnv hi0 e_v1 dJ0_length_8abf5_4 ?_
  refine z_aload_n (pc := 5) (k0 := 0) E dJ0_length_8abf5_5 rfl rfl ?_
  obtain ⟨r2, h3, hf⟩ := kC_e hf
  refine z_callVE (pc := 6) (is := []) (Cc := []) (C1 := []) (n := 0) (As := []) (st := [.int v1]) (st' := [.int r2, .int v1]) (C2 := []) E hEnv (c_J0_coder_7d493 (adK := adK) (adV := adV) (tA := tA) (l := l) (G := G) (ct := ct) h3) wv_J0_coder_7d493 wd_22_0 ⟨Nat.le_of_ble_eq_true rfl, Nat.le_of_ble_eq_true rfl, Nat.le_of_ble_eq_true rfl, Nat.le_of_ble_eq_true rfl⟩ rfl rfl rfl (by decide) rfl rfl (z_strr hEnv hi0) rfl (Nat.le_of_ble_eq_true rfl) dJ0_length_8abf5_6 rfl rfl ?_
  obtain ⟨v4, e_v4, hf⟩ := kL_e hf
  refine z_ishr (pc := 9) (v := v4) E dJ0_length_8abf5_9 e_v4 ?_
  cases hf
  exact z_iret E hr dJ0_length_8abf5_10
noncomputable def f_J3_checkIndex_8e157 (a1 : Int32) (a2 : Int32) : Option Int32 := kO (¬ a1 < 0) (kO (a1 < a2) (some (a1)))
def rm_J3_checkIndex_8e157 : Room := { frames := 0, cells := 0, slots := 0, locals := 0 }
set_option maxHeartbeats 4000000 in
set_option maxRecDepth 100000 in
theorem c_J3_checkIndex_8e157 {adK adV : Nat → Nat} {tA : Nat} {l : Launch} {G : va_G} {ct : Nat → ClassId} {z3 : Option Nat} {a1 : Int32} {a2 : Int32} {r0 : Int32} (hf : f_J3_checkIndex_8e157 a1 a2 = some r0) : zCE adK adV tA l yJ3_checkIndex_8e157 cJ3_checkIndex_8e157 3 (some .int) rm_J3_checkIndex_8e157 G ct [.int a1, .int a2, va_rf z3] [] [] (some (.int r0)) 0 0 := by
  refine z_enterE (own := RJ3) (lv := [(0, .int a1), (1, .int a2), (2, va_rf z3)]) (by decide) rfl (by simp [lg_sl, zcat, zcr, zci, zcl]) (by simp [lv_args, zcat, zcr, zci, zcl]) ?_
  intro p e s m args below meth c A E hr hnm hEnv
  unfold f_J3_checkIndex_8e157 at hf
  refine z_iload_n (pc := 0) (k0 := 0) E dJ3_checkIndex_8e157_0 rfl rfl ?_
  obtain ⟨c2, hf⟩ := kO_e hf
  refine z_if_lt (pc := 1) (tgt := 9) E dJ3_checkIndex_8e157_1 (by decide) (fun c1 => absurd c1 c2) (fun c1 => ?_)
  refine z_iload_n (pc := 4) (k0 := 0) E dJ3_checkIndex_8e157_4 rfl rfl ?_
  refine z_iload_n (pc := 5) (k0 := 1) E dJ3_checkIndex_8e157_5 rfl rfl ?_
  obtain ⟨c4, hf⟩ := kO_e hf
  refine z_icmp_lt (pc := 6) (tgt := 16) E dJ3_checkIndex_8e157_6 (by decide) (fun c3 => ?_) (fun c3 => absurd c4 c3)
  refine z_iload_n (pc := 16) (k0 := 0) E dJ3_checkIndex_8e157_16 rfl rfl ?_
  cases hf
  exact z_iret E hr dJ3_checkIndex_8e157_17
noncomputable def f_J0_checkIndex_df160 (a1 : Int32) (a2 : Int32) : Option Unit := kC (f_J3_checkIndex_8e157 a1 a2) (fun r2 => some ())
def rm_J0_checkIndex_df160 : Room := { frames := 1, cells := 0, slots := 0, locals := 22 }
set_option maxHeartbeats 4000000 in
set_option maxRecDepth 100000 in
theorem c_J0_checkIndex_df160 {adK adV : Nat → Nat} {tA : Nat} {l : Launch} {G : va_G} {ct : Nat → ClassId} {a1 : Int32} {a2 : Int32} (hf : f_J0_checkIndex_df160 a1 a2 = some ()) : zCE adK adV tA l yJ0_checkIndex_df160 cJ0_checkIndex_df160 2 none rm_J0_checkIndex_df160 G ct [.int a1, .int a2] [] [] none 0 0 := by
  refine z_enterE (own := RJ0) (lv := [(0, .int a1), (1, .int a2)]) (by decide) rfl (Nat.le_of_ble_eq_true rfl) rfl ?_
  intro p e s m args below meth c A E hr hnm hEnv
  unfold f_J0_checkIndex_df160 at hf
  refine z_iload_n (pc := 0) (k0 := 0) E dJ0_checkIndex_df160_0 rfl rfl ?_
  refine z_iload_n (pc := 1) (k0 := 1) E dJ0_checkIndex_df160_1 rfl rfl ?_
  refine z_formatter (pc := 2) E hEnv wd_20_2 dJ0_checkIndex_df160_2 (fun x_1 => ?_)
  obtain ⟨r2, h3, hf⟩ := kC_e hf
  refine z_callSE (pc := 5) (is := []) (Cc := []) (C1 := []) (n := 3) (As := [.int a1, .int a2, va_rf x_1]) (st := []) (st' := [.int r2]) (C2 := []) E hEnv (c_J3_checkIndex_8e157 (adK := adK) (adV := adV) (tA := tA) (l := l) (G := G) (ct := ct) (z3 := x_1) h3) wd_20_4 wd_20_5 wd_20_6 wd_20_3 ⟨by decide, by decide, by decide +kernel⟩ ⟨Nat.le_of_ble_eq_true rfl, Nat.le_of_ble_eq_true rfl, Nat.le_of_ble_eq_true rfl, Nat.le_of_ble_eq_true rfl⟩ rfl rfl rfl (by decide) rfl rfl rfl (Nat.le_of_ble_eq_true rfl) dJ0_checkIndex_df160_5 rfl rfl ?_
  refine z_pop (pc := 8) E dJ0_checkIndex_df160_8 rfl ?_
  cases hf
  exact z_vret E hr dJ0_checkIndex_df160_9
noncomputable def f_J1_charAt_3b067 (i0 : Nat) (a2 : Int32) : Option Int32 := kO (i0 < 4) (kL (Int32.ofNat (sLen.getD i0 0)) (fun v1 => kC (f_J0_checkIndex_df160 a2 v1) (fun r2 => kO (¬ (a2 < 0 ∨ sLen.getD i0 0 ≤ Int32.toNatClampNeg a2)) (kL (((sByt.getD i0 []).getD (Int32.toNatClampNeg a2) 0) &&& 255) (fun v5 => kL ((v5.toUInt32 % 65536).toInt32) (fun v6 => kO (narrow .char (.int v6) = .int v6) (some (v6))))))))
def rm_J1_charAt_3b067 : Room := { frames := 2, cells := 0, slots := 0, locals := 43 }
set_option maxHeartbeats 4000000 in
set_option maxRecDepth 100000 in
theorem c_J1_charAt_3b067 {adK adV : Nat → Nat} {tA : Nat} {l : Launch} {G : va_G} {ct : Nat → ClassId} {i0 : Nat} {a2 : Int32} {r0 : Int32} (hf : f_J1_charAt_3b067 i0 a2 = some r0) : zCE adK adV tA l yJ1_charAt_3b067 cJ1_charAt_3b067 2 (some .char) rm_J1_charAt_3b067 G ct [.ref (adV i0), .int a2] [] [] (some (.int r0)) 0 0 := by
  refine z_enterE (own := RJ1) (lv := [(0, .ref (adV i0)), (1, .int a2)]) (by decide) rfl (Nat.le_of_ble_eq_true rfl) rfl ?_
  intro p e s m args below meth c A E hr hnm hEnv
  unfold f_J1_charAt_3b067 at hf
  obtain ⟨hi0, hf⟩ := kO_e hf
  refine z_iload_n (pc := 0) (k0 := 1) E dJ1_charAt_3b067_0 rfl rfl ?_
  refine z_aload_n (pc := 1) (k0 := 0) E dJ1_charAt_3b067_1 rfl rfl ?_
  obtain ⟨v1, e_v1, hf⟩ := kL_e hf
  refine z_strl (pc := 2) (i := i0) (v := v1) E hEnv hi0 e_v1 dJ1_charAt_3b067_2 ?_
  obtain ⟨r2, h3, hf⟩ := kC_e hf
  refine z_callSE (pc := 3) (is := []) (Cc := []) (C1 := []) (n := 2) (As := [.int a2, .int v1]) (st := []) (st' := []) (C2 := []) E hEnv (c_J0_checkIndex_df160 (adK := adK) (adV := adV) (tA := tA) (l := l) (G := G) (ct := ct) h3) wd_20_0 wd_19_10 wd_20_1 wd_19_23 ⟨by decide, by decide, by decide +kernel⟩ ⟨Nat.le_of_ble_eq_true rfl, Nat.le_of_ble_eq_true rfl, Nat.le_of_ble_eq_true rfl, Nat.le_of_ble_eq_true rfl⟩ rfl rfl rfl (by decide) rfl rfl rfl (Nat.le_of_ble_eq_true rfl) dJ1_charAt_3b067_3 rfl rfl ?_
  refine z_aload_n (pc := 6) (k0 := 0) E dJ1_charAt_3b067_6 rfl rfl ?_
  refine z_iload_n (pc := 7) (k0 := 1) E dJ1_charAt_3b067_7 rfl rfl ?_
  obtain ⟨c4, hf⟩ := kO_e hf
  refine z_strb (pc := 8) (i := i0) E hEnv hi0 c4 dJ1_charAt_3b067_8 ?_
  refine z_sipush (pc := 9) (v := 255) E dJ1_charAt_3b067_9 (by decide) ?_
  obtain ⟨v5, e_v5, hf⟩ := kL_e hf
  refine z_iand (pc := 12) (v := v5) E dJ1_charAt_3b067_12 e_v5 ?_
  obtain ⟨v6, e_v6, hf⟩ := kL_e hf
  refine z_i2c (pc := 13) (v := v6) E dJ1_charAt_3b067_13 e_v6 ?_
  obtain ⟨c7, hf⟩ := kO_e hf
  cases hf
  exact z_cret E hr c7 dJ1_charAt_3b067_14
noncomputable def f_J0_charAt_5068e (i0 : Nat) (a1 : Int32) : Option Int32 := kO (i0 < 4) (kC (f_J0_isLatin1_aae02 i0) (fun r1 => kO (¬ r1 = 0) (kC (f_J1_charAt_3b067 i0 a1) (fun r5 => kO (narrow .char (.int r5) = .int r5) (some (r5))))))
theorem wv_J0_charAt_5068e : zWV RJ0 yJ0_charAt_5068e cJ0_charAt_5068e 2 (some .char) 1 := ⟨wd_19_8, wd_19_9, wd_19_10, wd_19_11, by decide +kernel⟩
def rm_J0_charAt_5068e : Room := { frames := 3, cells := 0, slots := 0, locals := 64 }
set_option maxHeartbeats 4000000 in
set_option maxRecDepth 100000 in
theorem c_J0_charAt_5068e {adK adV : Nat → Nat} {tA : Nat} {l : Launch} {G : va_G} {ct : Nat → ClassId} {i0 : Nat} {a1 : Int32} {r0 : Int32} (hf : f_J0_charAt_5068e i0 a1 = some r0) : zCE adK adV tA l yJ0_charAt_5068e cJ0_charAt_5068e 2 (some .char) rm_J0_charAt_5068e G ct [.ref (adK i0), .int a1] [] [] (some (.int r0)) 0 0 := by
  refine z_enterE (own := RJ0) (lv := [(0, .ref (adK i0)), (1, .int a1)]) (by decide) rfl (Nat.le_of_ble_eq_true rfl) rfl ?_
  intro p e s m args below meth c A E hr hnm hEnv
  unfold f_J0_charAt_5068e at hf
  obtain ⟨hi0, hf⟩ := kO_e hf
  refine z_aload_n (pc := 0) (k0 := 0) E dJ0_charAt_5068e_0 rfl rfl ?_
  obtain ⟨r1, h2, hf⟩ := kC_e hf
  refine z_callVE (pc := 1) (is := []) (Cc := []) (C1 := []) (n := 0) (As := []) (st := []) (st' := [.int r1]) (C2 := []) E hEnv (c_J0_isLatin1_aae02 (adK := adK) (adV := adV) (tA := tA) (l := l) (G := G) (ct := ct) h2) wv_J0_isLatin1_aae02 wd_19_13 ⟨Nat.le_of_ble_eq_true rfl, Nat.le_of_ble_eq_true rfl, Nat.le_of_ble_eq_true rfl, Nat.le_of_ble_eq_true rfl⟩ rfl rfl rfl (by decide) rfl rfl (z_strr hEnv hi0) rfl (Nat.le_of_ble_eq_true rfl) dJ0_charAt_5068e_1 rfl rfl ?_
  obtain ⟨c4, hf⟩ := kO_e hf
  refine z_if_eq (pc := 4) (tgt := 16) E dJ0_charAt_5068e_4 (by decide) (fun c3 => absurd c3 c4) (fun c3 => ?_)
  refine z_aload_n (pc := 7) (k0 := 0) E dJ0_charAt_5068e_7 rfl rfl ?_
  refine z_strv (pc := 8) (i := i0) E hEnv hi0 wd_19_12 dJ0_charAt_5068e_8 ?_
  refine z_iload_n (pc := 11) (k0 := 1) E dJ0_charAt_5068e_11 rfl rfl ?_
  obtain ⟨r5, h6, hf⟩ := kC_e hf
  refine z_callSE (pc := 12) (is := []) (Cc := []) (C1 := []) (n := 2) (As := [.ref (adV i0), .int a1]) (st := []) (st' := [.int r5]) (C2 := []) E hEnv (c_J1_charAt_3b067 (adK := adK) (adV := adV) (tA := tA) (l := l) (G := G) (ct := ct) h6) wd_19_20 wd_19_21 wd_19_22 wd_19_19 ⟨by decide, by decide, by decide +kernel⟩ ⟨Nat.le_of_ble_eq_true rfl, Nat.le_of_ble_eq_true rfl, Nat.le_of_ble_eq_true rfl, Nat.le_of_ble_eq_true rfl⟩ rfl rfl rfl (by decide) rfl rfl rfl (Nat.le_of_ble_eq_true rfl) dJ0_charAt_5068e_12 rfl rfl ?_
  obtain ⟨c7, hf⟩ := kO_e hf
  cases hf
  exact z_cret E hr c7 dJ0_charAt_5068e_15
noncomputable def f_J1_canEncode_9a6ad (a1 : Int32) : Option Int32 := kB (a1 < 0) (some (0)) (kB (255 < a1) (some (0)) (some (1)))
def rm_J1_canEncode_9a6ad : Room := { frames := 0, cells := 0, slots := 0, locals := 0 }
set_option maxHeartbeats 4000000 in
set_option maxRecDepth 100000 in
theorem c_J1_canEncode_9a6ad {adK adV : Nat → Nat} {tA : Nat} {l : Launch} {G : va_G} {ct : Nat → ClassId} {a1 : Int32} {r0 : Int32} (hf : f_J1_canEncode_9a6ad a1 = some r0) : zCE adK adV tA l yJ1_canEncode_9a6ad cJ1_canEncode_9a6ad 1 (some .boolean) rm_J1_canEncode_9a6ad G ct [.int a1] [] [] (some (.int r0)) 0 0 := by
  refine z_enterE (own := RJ1) (lv := [(0, .int a1)]) (by decide) rfl (Nat.le_of_ble_eq_true rfl) rfl ?_
  intro p e s m args below meth c A E hr hnm hEnv
  unfold f_J1_canEncode_9a6ad at hf
  refine z_iload_n (pc := 0) (k0 := 0) E dJ1_canEncode_9a6ad_0 rfl rfl ?_
  refine z_if_lt (pc := 1) (tgt := 15) E dJ1_canEncode_9a6ad_1 (by decide) (fun c1 => ?_) (fun c1 => ?_)
  · have hf := kB_t hf c1
    refine z_iconst (pc := 15) (v := 0) E dJ1_canEncode_9a6ad_15 (by decide) ?_
    cases hf
    exact z_zret E hr (by decide) dJ1_canEncode_9a6ad_16
  · have hf := kB_f hf c1
    refine z_iload_n (pc := 4) (k0 := 0) E dJ1_canEncode_9a6ad_4 rfl rfl ?_
    refine z_sipush (pc := 5) (v := 255) E dJ1_canEncode_9a6ad_5 (by decide) ?_
    refine z_icmp_gt (pc := 8) (tgt := 15) E dJ1_canEncode_9a6ad_8 (by decide) (fun c2 => ?_) (fun c2 => ?_)
    · have hf := kB_t hf c2
      refine z_iconst (pc := 15) (v := 0) E dJ1_canEncode_9a6ad_15 (by decide) ?_
      cases hf
      exact z_zret E hr (by decide) dJ1_canEncode_9a6ad_16
    · have hf := kB_f hf c2
      refine z_iconst (pc := 11) (v := 1) E dJ1_canEncode_9a6ad_11 (by decide) ?_
      refine z_goto (pc := 12) (tgt := 16) E dJ1_canEncode_9a6ad_12 (by decide) ?_
      cases hf
      exact z_zret E hr (by decide) dJ1_canEncode_9a6ad_16
noncomputable def f_J1_indexOfChar_4cfef_l7 (N : Nat) (i0 : Nat) : Nat → Int32 → Int32 → Int32 → Option Int32 := fun n => Nat.rec (motive := fun _ => Int32 → Int32 → Int32 → Option Int32) (fun _ _ _ => none) (fun _ ih x3 x4 x5 => kB (x3 ≤ x5) (some ((-1))) (kO (¬ (x5 < 0 ∨ sLen.getD i0 0 ≤ Int32.toNatClampNeg x5)) (kB (((sByt.getD i0 []).getD (Int32.toNatClampNeg x5) 0) = x4) (some (x5)) (kL (x5 + 1) (fun v5 => ih x3 x4 v5))))) n
theorem f_J1_indexOfChar_4cfef_l7_z (N : Nat) (i0 : Nat) (x3 : Int32) (x4 : Int32) (x5 : Int32) : f_J1_indexOfChar_4cfef_l7 N i0 0 x3 x4 x5 = none := rfl
theorem f_J1_indexOfChar_4cfef_l7_s (N : Nat) (i0 : Nat) (n : Nat) (x3 : Int32) (x4 : Int32) (x5 : Int32) : f_J1_indexOfChar_4cfef_l7 N i0 (n + 1) x3 x4 x5 = kB (x3 ≤ x5) (some ((-1))) (kO (¬ (x5 < 0 ∨ sLen.getD i0 0 ≤ Int32.toNatClampNeg x5)) (kB (((sByt.getD i0 []).getD (Int32.toNatClampNeg x5) 0) = x4) (some (x5)) (kL (x5 + 1) (fun v5 => (f_J1_indexOfChar_4cfef_l7 N i0 n) x3 x4 v5)))) := rfl
noncomputable def f_J1_indexOfChar_4cfef (N : Nat) (i0 : Nat) (a2 : Int32) (a3 : Int32) (a4 : Int32) : Option Int32 := kO (i0 < 4) (kL (a2.toInt8.toInt32) (fun v1 => f_J1_indexOfChar_4cfef_l7 N i0 N a4 v1 a3))
def rm_J1_indexOfChar_4cfef : Room := { frames := 0, cells := 0, slots := 0, locals := 0 }
set_option maxHeartbeats 4000000 in
set_option maxRecDepth 100000 in
theorem c_J1_indexOfChar_4cfef {adK adV : Nat → Nat} {tA : Nat} {l : Launch} {G : va_G} {ct : Nat → ClassId} {N : Nat} {i0 : Nat} {a2 : Int32} {a3 : Int32} {a4 : Int32} {r0 : Int32} (hf : f_J1_indexOfChar_4cfef N i0 a2 a3 a4 = some r0) : zCE adK adV tA l yJ1_indexOfChar_4cfef cJ1_indexOfChar_4cfef 6 (some .int) rm_J1_indexOfChar_4cfef G ct [.ref (adV i0), .int a2, .int a3, .int a4] [] [] (some (.int r0)) 0 0 := by
  refine z_enterE (own := RJ1) (lv := [(0, .ref (adV i0)), (1, .int a2), (2, .int a3), (3, .int a4)]) (by decide) rfl (Nat.le_of_ble_eq_true rfl) rfl ?_
  intro p e s m args below meth c A E hr hnm hEnv
  unfold f_J1_indexOfChar_4cfef at hf
  obtain ⟨hi0, hf⟩ := kO_e hf
  have L7 : ∀ (n7 : Nat) (x3 : Int32) (x4 : Int32) (x5 : Int32), f_J1_indexOfChar_4cfef_l7 N i0 n7 x3 x4 x5 = some r0 → zJ p l e rm_J1_indexOfChar_4cfef s m args below meth c (zQ G ct (some (.int r0)) [] A below args s 0 0) A G 6 0 0 [] [(0, .ref (adV i0)), (3, .int x3), (4, .int x4), (5, .int x5)] 7 [] := by
    intro n7
    induction n7 with
    | zero =>
      intro x3 x4 x5 hf
      rw [f_J1_indexOfChar_4cfef_l7_z] at hf
      cases hf
    | succ n7 ih7 =>
      intro x3 x4 x5 hf
      rw [f_J1_indexOfChar_4cfef_l7_s] at hf
      refine z_iload (pc := 7) (k0 := 3) E dJ1_indexOfChar_4cfef_7 rfl ?_
      refine z_iload_n (pc := 9) (k0 := 1) E dJ1_indexOfChar_4cfef_9 rfl rfl ?_
      refine z_icmp_ge (pc := 10) (tgt := 31) E dJ1_indexOfChar_4cfef_10 (by decide) (fun c2 => ?_) (fun c2 => ?_)
      · have hf := kB_t hf c2
        refine z_iconst (pc := 31) (v := (-1)) E dJ1_indexOfChar_4cfef_31 (by decide) ?_
        cases hf
        exact z_iret E hr dJ1_indexOfChar_4cfef_32
      · have hf := kB_f hf c2
        refine z_aload_n (pc := 13) (k0 := 0) E dJ1_indexOfChar_4cfef_13 rfl rfl ?_
        refine z_iload (pc := 14) (k0 := 3) E dJ1_indexOfChar_4cfef_14 rfl ?_
        obtain ⟨c3, hf⟩ := kO_e hf
        refine z_strb (pc := 16) (i := i0) E hEnv hi0 c3 dJ1_indexOfChar_4cfef_16 ?_
        refine z_iload (pc := 17) (k0 := 2) E dJ1_indexOfChar_4cfef_17 rfl ?_
        refine z_icmp_ne (pc := 19) (tgt := 25) E dJ1_indexOfChar_4cfef_19 (by decide) (fun c4 => ?_) (fun c4 => ?_)
        · have hf := kB_f hf c4
          obtain ⟨v5, e_v5, hf⟩ := kL_e hf
          refine z_iinc (pc := 25) (k0 := 3) (v := v5) (lv' := [(5, .int v5), (0, .ref (adV i0)), (3, .int x3), (4, .int x4)]) E dJ1_indexOfChar_4cfef_25 rfl e_v5 (by decide) rfl ?_
          refine z_goto (pc := 28) (tgt := 7) E dJ1_indexOfChar_4cfef_28 (by decide) ?_
          refine z_sub [1, 2, 3, 0] (lv' := [(0, .ref (adV i0)), (3, .int x3), (4, .int x4), (5, .int v5)]) rfl ?_
          exact ih7 x3 x4 v5 hf
        · have hf := kB_t hf c4
          refine z_iload (pc := 22) (k0 := 3) E dJ1_indexOfChar_4cfef_22 rfl ?_
          cases hf
          exact z_iret E hr dJ1_indexOfChar_4cfef_24
  refine z_iload_n (pc := 0) (k0 := 1) E dJ1_indexOfChar_4cfef_0 rfl rfl ?_
  obtain ⟨v1, e_v1, hf⟩ := kL_e hf
  refine z_i2b (pc := 1) (v := v1) E dJ1_indexOfChar_4cfef_1 e_v1 ?_
  refine z_istore (pc := 2) (lv' := [(4, .int v1), (0, .ref (adV i0)), (1, .int a2), (2, .int a3), (3, .int a4)]) E dJ1_indexOfChar_4cfef_2 (by decide) rfl ?_
  refine z_iload_n (pc := 4) (k0 := 3) E dJ1_indexOfChar_4cfef_4 rfl rfl ?_
  refine z_istore (pc := 5) (lv' := [(5, .int a3), (4, .int v1), (0, .ref (adV i0)), (1, .int a2), (2, .int a3), (3, .int a4)]) E dJ1_indexOfChar_4cfef_5 (by decide) rfl ?_
  refine z_sub [2, 5, 1, 0] (lv' := [(0, .ref (adV i0)), (3, .int a4), (4, .int v1), (5, .int a3)]) rfl ?_
  exact L7 N a4 v1 a3 hf
noncomputable def f_J1_indexOf_4cfef (N : Nat) (i0 : Nat) (a2 : Int32) (a3 : Int32) (a4 : Int32) : Option Int32 := kO (i0 < 4) (kC (f_J1_canEncode_9a6ad a2) (fun r1 => kB (r1 = 0) (some ((-1))) (kL (if a3 < 0 then 0 else a3) (fun v4 => kL (Int32.ofNat (sLen.getD i0 0)) (fun v5 => kL (if v5 < a4 then v5 else a4) (fun v6 => kB (v4 < v6) (kC (f_J1_indexOfChar_4cfef N i0 a2 v4 v6) (fun r8 => some (r8))) (some ((-1)))))))))
def rm_J1_indexOf_4cfef : Room := { frames := 1, cells := 0, slots := 0, locals := 100 }
set_option maxHeartbeats 4000000 in
set_option maxRecDepth 100000 in
theorem c_J1_indexOf_4cfef {adK adV : Nat → Nat} {tA : Nat} {l : Launch} {G : va_G} {ct : Nat → ClassId} {N : Nat} {i0 : Nat} {a2 : Int32} {a3 : Int32} {a4 : Int32} {r0 : Int32} (hf : f_J1_indexOf_4cfef N i0 a2 a3 a4 = some r0) : zCE adK adV tA l yJ1_indexOf_4cfef cJ1_indexOf_4cfef 4 (some .int) rm_J1_indexOf_4cfef G ct [.ref (adV i0), .int a2, .int a3, .int a4] [] [] (some (.int r0)) 0 0 := by
  refine z_enterE (own := RJ1) (lv := [(0, .ref (adV i0)), (1, .int a2), (2, .int a3), (3, .int a4)]) (by decide) rfl (Nat.le_of_ble_eq_true rfl) rfl ?_
  intro p e s m args below meth c A E hr hnm hEnv
  unfold f_J1_indexOf_4cfef at hf
  obtain ⟨hi0, hf⟩ := kO_e hf
  refine z_iload_n (pc := 0) (k0 := 1) E dJ1_indexOf_4cfef_0 rfl rfl ?_
  obtain ⟨r1, h2, hf⟩ := kC_e hf
  refine z_callSE (pc := 1) (is := []) (Cc := []) (C1 := []) (n := 1) (As := [.int a2]) (st := []) (st' := [.int r1]) (C2 := []) E hEnv (c_J1_canEncode_9a6ad (adK := adK) (adV := adV) (tA := tA) (l := l) (G := G) (ct := ct) h2) wd_22_15 wd_19_21 wd_22_16 wd_22_14 ⟨by decide, by decide, by decide +kernel⟩ ⟨Nat.le_of_ble_eq_true rfl, Nat.le_of_ble_eq_true rfl, Nat.le_of_ble_eq_true rfl, Nat.le_of_ble_eq_true rfl⟩ rfl rfl rfl (by decide) rfl rfl rfl (Nat.le_of_ble_eq_true rfl) dJ1_indexOf_4cfef_1 rfl rfl ?_
  refine z_if_ne (pc := 4) (tgt := 9) E dJ1_indexOf_4cfef_4 (by decide) (fun c3 => ?_) (fun c3 => ?_)
  · have hf := kB_f hf c3
    refine z_iload_n (pc := 9) (k0 := 2) E dJ1_indexOf_4cfef_9 rfl rfl ?_
    refine z_iconst (pc := 10) (v := 0) E dJ1_indexOf_4cfef_10 (by decide) ?_
    obtain ⟨v4, e_v4, hf⟩ := kL_e hf
    refine z_mmax (pc := 11) (v := v4) E wd_22_7 wd_22_8 wd_22_9 wd_22_10 ⟨Nat.le_of_ble_eq_true rfl, Nat.le_of_ble_eq_true rfl, Nat.le_of_ble_eq_true rfl, Nat.le_of_ble_eq_true rfl⟩ e_v4 dJ1_indexOf_4cfef_11 ?_
    refine z_istore_n (pc := 14) (lv' := [(2, .int v4), (0, .ref (adV i0)), (1, .int a2), (3, .int a4)]) E dJ1_indexOf_4cfef_14 rfl (by decide) rfl ?_
    refine z_iload_n (pc := 15) (k0 := 3) E dJ1_indexOf_4cfef_15 rfl rfl ?_
    refine z_aload_n (pc := 16) (k0 := 1) E dJ1_indexOf_4cfef_16 rfl rfl ?_
    obtain ⟨v5, e_v5, hf⟩ := kL_e hf
    refine z_strl (pc := 17) (i := i0) (v := v5) E hEnv hi0 e_v5 dJ1_indexOf_4cfef_17 ?_
    obtain ⟨v6, e_v6, hf⟩ := kL_e hf
    refine z_mmin (pc := 18) (v := v6) E wd_22_11 wd_22_12 wd_22_9 wd_22_13 ⟨Nat.le_of_ble_eq_true rfl, Nat.le_of_ble_eq_true rfl, Nat.le_of_ble_eq_true rfl, Nat.le_of_ble_eq_true rfl⟩ e_v6 dJ1_indexOf_4cfef_18 ?_
    refine z_istore_n (pc := 21) (lv' := [(3, .int v6), (2, .int v4), (0, .ref (adV i0)), (1, .int a2)]) E dJ1_indexOf_4cfef_21 rfl (by decide) rfl ?_
    refine z_iload_n (pc := 22) (k0 := 1) E dJ1_indexOf_4cfef_22 rfl rfl ?_
    refine z_iload_n (pc := 23) (k0 := 0) E dJ1_indexOf_4cfef_23 rfl rfl ?_
    refine z_icmp_lt (pc := 24) (tgt := 29) E dJ1_indexOf_4cfef_24 (by decide) (fun c7 => ?_) (fun c7 => ?_)
    · have hf := kB_t hf c7
      refine z_aload_n (pc := 29) (k0 := 2) E dJ1_indexOf_4cfef_29 rfl rfl ?_
      refine z_iload_n (pc := 30) (k0 := 3) E dJ1_indexOf_4cfef_30 rfl rfl ?_
      refine z_iload_n (pc := 31) (k0 := 1) E dJ1_indexOf_4cfef_31 rfl rfl ?_
      refine z_iload_n (pc := 32) (k0 := 0) E dJ1_indexOf_4cfef_32 rfl rfl ?_
      obtain ⟨r8, h9, hf⟩ := kC_e hf
      refine z_callSE (pc := 33) (is := []) (Cc := []) (C1 := []) (n := 4) (As := [.ref (adV i0), .int a2, .int v4, .int v6]) (st := []) (st' := [.int r8]) (C2 := []) E hEnv (c_J1_indexOfChar_4cfef (adK := adK) (adV := adV) (tA := tA) (l := l) (G := G) (ct := ct) h9) wd_22_18 wd_19_21 wd_22_19 wd_22_17 ⟨by decide, by decide, by decide +kernel⟩ ⟨Nat.le_of_ble_eq_true rfl, Nat.le_of_ble_eq_true rfl, Nat.le_of_ble_eq_true rfl, Nat.le_of_ble_eq_true rfl⟩ rfl rfl rfl (by decide) rfl rfl rfl (Nat.le_of_ble_eq_true rfl) dJ1_indexOf_4cfef_33 rfl rfl ?_
      cases hf
      exact z_iret E hr dJ1_indexOf_4cfef_36
    · have hf := kB_f hf c7
      refine z_iconst (pc := 27) (v := (-1)) E dJ1_indexOf_4cfef_27 (by decide) ?_
      cases hf
      exact z_iret E hr dJ1_indexOf_4cfef_28
  · have hf := kB_t hf c3
    refine z_iconst (pc := 7) (v := (-1)) E dJ1_indexOf_4cfef_7 (by decide) ?_
    cases hf
    exact z_iret E hr dJ1_indexOf_4cfef_8
noncomputable def f_J0_indexOf_7cf53 (N : Nat) (i0 : Nat) (a1 : Int32) (a2 : Int32) : Option Int32 := kO (i0 < 4) (kC (f_J0_isLatin1_aae02 i0) (fun r1 => kO (¬ r1 = 0) (kC (f_J0_length_8abf5 i0) (fun r5 => kC (f_J1_indexOf_4cfef N i0 a1 a2 r5) (fun r7 => some (r7))))))
theorem wv_J0_indexOf_7cf53 : zWV RJ0 yJ0_indexOf_7cf53 cJ0_indexOf_7cf53 3 (some .int) 2 := ⟨wd_21_17, wd_21_18, wd_19_10, wd_21_19, by decide +kernel⟩
def rm_J0_indexOf_7cf53 : Room := { frames := 2, cells := 0, slots := 0, locals := 123 }
set_option maxHeartbeats 4000000 in
set_option maxRecDepth 100000 in
theorem c_J0_indexOf_7cf53 {adK adV : Nat → Nat} {tA : Nat} {l : Launch} {G : va_G} {ct : Nat → ClassId} {N : Nat} {i0 : Nat} {a1 : Int32} {a2 : Int32} {r0 : Int32} (hf : f_J0_indexOf_7cf53 N i0 a1 a2 = some r0) : zCE adK adV tA l yJ0_indexOf_7cf53 cJ0_indexOf_7cf53 3 (some .int) rm_J0_indexOf_7cf53 G ct [.ref (adK i0), .int a1, .int a2] [] [] (some (.int r0)) 0 0 := by
  refine z_enterE (own := RJ0) (lv := [(0, .ref (adK i0)), (1, .int a1), (2, .int a2)]) (by decide) rfl (Nat.le_of_ble_eq_true rfl) rfl ?_
  intro p e s m args below meth c A E hr hnm hEnv
  unfold f_J0_indexOf_7cf53 at hf
  obtain ⟨hi0, hf⟩ := kO_e hf
  refine z_aload_n (pc := 0) (k0 := 0) E dJ0_indexOf_7cf53_0 rfl rfl ?_
  obtain ⟨r1, h2, hf⟩ := kC_e hf
  refine z_callVE (pc := 1) (is := []) (Cc := []) (C1 := []) (n := 0) (As := []) (st := []) (st' := [.int r1]) (C2 := []) E hEnv (c_J0_isLatin1_aae02 (adK := adK) (adV := adV) (tA := tA) (l := l) (G := G) (ct := ct) h2) wv_J0_isLatin1_aae02 wd_19_13 ⟨Nat.le_of_ble_eq_true rfl, Nat.le_of_ble_eq_true rfl, Nat.le_of_ble_eq_true rfl, Nat.le_of_ble_eq_true rfl⟩ rfl rfl rfl (by decide) rfl rfl (z_strr hEnv hi0) rfl (Nat.le_of_ble_eq_true rfl) dJ0_indexOf_7cf53_1 rfl rfl ?_
  obtain ⟨c4, hf⟩ := kO_e hf
  refine z_if_eq (pc := 4) (tgt := 23) E dJ0_indexOf_7cf53_4 (by decide) (fun c3 => absurd c3 c4) (fun c3 => ?_)
  refine z_aload_n (pc := 7) (k0 := 0) E dJ0_indexOf_7cf53_7 rfl rfl ?_
  refine z_strv (pc := 8) (i := i0) E hEnv hi0 wd_19_12 dJ0_indexOf_7cf53_8 ?_
  refine z_iload_n (pc := 11) (k0 := 1) E dJ0_indexOf_7cf53_11 rfl rfl ?_
  refine z_iload_n (pc := 12) (k0 := 2) E dJ0_indexOf_7cf53_12 rfl rfl ?_
  refine z_aload_n (pc := 13) (k0 := 0) E dJ0_indexOf_7cf53_13 rfl rfl ?_
  obtain ⟨r5, h6, hf⟩ := kC_e hf
  refine z_callVE (pc := 14) (is := []) (Cc := []) (C1 := []) (n := 0) (As := []) (st := [.int a2, .int a1, .ref (adV i0)]) (st' := [.int r5, .int a2, .int a1, .ref (adV i0)]) (C2 := []) E hEnv (c_J0_length_8abf5 (adK := adK) (adV := adV) (tA := tA) (l := l) (G := G) (ct := ct) h6) wv_J0_length_8abf5 wd_21_20 ⟨Nat.le_of_ble_eq_true rfl, Nat.le_of_ble_eq_true rfl, Nat.le_of_ble_eq_true rfl, Nat.le_of_ble_eq_true rfl⟩ rfl rfl rfl (by decide) rfl rfl (z_strr hEnv hi0) rfl (Nat.le_of_ble_eq_true rfl) dJ0_indexOf_7cf53_14 rfl rfl ?_
  obtain ⟨r7, h8, hf⟩ := kC_e hf
  refine z_callSE (pc := 17) (is := []) (Cc := []) (C1 := []) (n := 4) (As := [.ref (adV i0), .int a1, .int a2, .int r5]) (st := []) (st' := [.int r7]) (C2 := []) E hEnv (c_J1_indexOf_4cfef (adK := adK) (adV := adV) (tA := tA) (l := l) (G := G) (ct := ct) h8) wd_22_5 wd_19_21 wd_22_6 wd_22_4 ⟨by decide, by decide, by decide +kernel⟩ ⟨Nat.le_of_ble_eq_true rfl, Nat.le_of_ble_eq_true rfl, Nat.le_of_ble_eq_true rfl, Nat.le_of_ble_eq_true rfl⟩ rfl rfl rfl (by decide) rfl rfl rfl (Nat.le_of_ble_eq_true rfl) dJ0_indexOf_7cf53_17 rfl rfl ?_
  refine z_goto (pc := 20) (tgt := 36) E dJ0_indexOf_7cf53_20 (by decide) ?_
  cases hf
  exact z_iret E hr dJ0_indexOf_7cf53_36
noncomputable def f_J0_indexOf_0f7a4 (N : Nat) (i0 : Nat) (a1 : Int32) : Option Int32 := kO (i0 < 4) (kC (f_J0_indexOf_7cf53 N i0 a1 0) (fun r1 => some (r1)))
theorem wv_J0_indexOf_0f7a4 : zWV RJ0 yJ0_indexOf_0f7a4 cJ0_indexOf_0f7a4 2 (some .int) 1 := ⟨wd_21_13, wd_21_14, wd_19_10, wd_21_15, by decide +kernel⟩
def rm_J0_indexOf_0f7a4 : Room := { frames := 3, cells := 0, slots := 0, locals := 145 }
set_option maxHeartbeats 4000000 in
set_option maxRecDepth 100000 in
theorem c_J0_indexOf_0f7a4 {adK adV : Nat → Nat} {tA : Nat} {l : Launch} {G : va_G} {ct : Nat → ClassId} {N : Nat} {i0 : Nat} {a1 : Int32} {r0 : Int32} (hf : f_J0_indexOf_0f7a4 N i0 a1 = some r0) : zCE adK adV tA l yJ0_indexOf_0f7a4 cJ0_indexOf_0f7a4 2 (some .int) rm_J0_indexOf_0f7a4 G ct [.ref (adK i0), .int a1] [] [] (some (.int r0)) 0 0 := by
  refine z_enterE (own := RJ0) (lv := [(0, .ref (adK i0)), (1, .int a1)]) (by decide) rfl (Nat.le_of_ble_eq_true rfl) rfl ?_
  intro p e s m args below meth c A E hr hnm hEnv
  unfold f_J0_indexOf_0f7a4 at hf
  obtain ⟨hi0, hf⟩ := kO_e hf
  refine z_aload_n (pc := 0) (k0 := 0) E dJ0_indexOf_0f7a4_0 rfl rfl ?_
  refine z_iload_n (pc := 1) (k0 := 1) E dJ0_indexOf_0f7a4_1 rfl rfl ?_
  refine z_iconst (pc := 2) (v := 0) E dJ0_indexOf_0f7a4_2 (by decide) ?_
  obtain ⟨r1, h2, hf⟩ := kC_e hf
  refine z_callVE (pc := 3) (is := []) (Cc := []) (C1 := []) (n := 2) (As := [.int a1, .int 0]) (st := []) (st' := [.int r1]) (C2 := []) E hEnv (c_J0_indexOf_7cf53 (adK := adK) (adV := adV) (tA := tA) (l := l) (G := G) (ct := ct) h2) wv_J0_indexOf_7cf53 wd_21_16 ⟨Nat.le_of_ble_eq_true rfl, Nat.le_of_ble_eq_true rfl, Nat.le_of_ble_eq_true rfl, Nat.le_of_ble_eq_true rfl⟩ rfl rfl rfl (by decide) rfl rfl (z_strr hEnv hi0) rfl (Nat.le_of_ble_eq_true rfl) dJ0_indexOf_0f7a4_3 rfl rfl ?_
  cases hf
  exact z_iret E hr dJ0_indexOf_0f7a4_6
noncomputable def f_X5_takes (SR : zRS) (a1 : Int32) : Option (Int32 × zRS) := kB ((SR.1 5) ≤ (SR.1 6)) (some (0, SR)) (kB (100 ≤ (SR.1 6)) (some (0, SR)) (kO (¬ ((SR.1 6) < 0 ∨ 100 ≤ Int32.toNatClampNeg (SR.1 6))) (kB (((SR.2 0) (Int32.toNatClampNeg (SR.1 6))) = a1) (kL ((SR.1 6) + 1) (fun v5 => kL (rSI SR 6 v5) (fun SR_6 => some (1, SR_6)))) (some (0, SR)))))
theorem wv_X5_takes : zWV RX5 yX5_takes cX5_takes 2 (some .boolean) 1 := ⟨wd_21_1, wd_21_2, wd_2_0, wd_21_3, by decide +kernel⟩
def rm_X5_takes : Room := { frames := 0, cells := 0, slots := 0, locals := 0 }
set_option maxHeartbeats 4000000 in
set_option maxRecDepth 100000 in
theorem c_X5_takes {l : Launch} {G : va_G} {ct : Nat → ClassId} {aR : Nat → Nat} {SR : zRS} {a1 : Int32} {r0 : Int32} {OR : zRS} (hf : f_X5_takes SR a1 = some (r0, OR)) : zC l yX5_takes cX5_takes 2 (some .boolean) rm_X5_takes G ct [.ref (aR 200), .int a1] [wR aR ct SR] [wR aR ct OR] (some (.int r0)) 0 0 := by
  refine z_enter (own := RX5) (lv := [(0, .ref (aR 200)), (1, .int a1)]) (by decide) rfl (Nat.le_of_ble_eq_true rfl) rfl ?_
  intro p e s m args below meth c A E hr hnm
  unfold f_X5_takes at hf
  refine z_aload_n (pc := 0) (k0 := 0) E dX5_takes_0 rfl rfl ?_
  refine gR_6 (pc := 1) (i := 0) E rfl wd_18_19 dX5_takes_1 ?_
  refine z_aload_n (pc := 4) (k0 := 0) E dX5_takes_4 rfl rfl ?_
  refine gR_5 (pc := 5) (i := 0) E rfl wd_18_22 dX5_takes_5 ?_
  refine z_icmp_ge (pc := 8) (tgt := 33) E dX5_takes_8 (by decide) (fun c1 => ?_) (fun c1 => ?_)
  · have hf := kB_t hf c1
    refine z_iconst (pc := 33) (v := 0) E dX5_takes_33 (by decide) ?_
    cases hf
    exact z_zret E hr (by decide) dX5_takes_34
  · have hf := kB_f hf c1
    refine z_aload_n (pc := 11) (k0 := 0) E dX5_takes_11 rfl rfl ?_
    refine gR_6 (pc := 12) (i := 0) E rfl wd_18_19 dX5_takes_12 ?_
    refine z_bipush (pc := 15) (v := 100) E dX5_takes_15 (by decide) ?_
    refine z_icmp_ge (pc := 17) (tgt := 33) E dX5_takes_17 (by decide) (fun c2 => ?_) (fun c2 => ?_)
    · have hf := kB_t hf c2
      refine z_iconst (pc := 33) (v := 0) E dX5_takes_33 (by decide) ?_
      cases hf
      exact z_zret E hr (by decide) dX5_takes_34
    · have hf := kB_f hf c2
      refine z_aload_n (pc := 20) (k0 := 0) E dX5_takes_20 rfl rfl ?_
      refine gR_0 (pc := 21) (i := 0) E rfl wd_3_10 dX5_takes_21 ?_
      refine z_aload_n (pc := 24) (k0 := 0) E dX5_takes_24 rfl rfl ?_
      refine gR_6 (pc := 25) (i := 0) E rfl wd_18_19 dX5_takes_25 ?_
      obtain ⟨c3, hf⟩ := kO_e hf
      refine lR_0 (pc := 28) (i := 0) E rfl c3 dX5_takes_28 ?_
      refine z_iload_n (pc := 29) (k0 := 1) E dX5_takes_29 rfl rfl ?_
      refine z_icmp_eq (pc := 30) (tgt := 35) E dX5_takes_30 (by decide) (fun c4 => ?_) (fun c4 => ?_)
      · have hf := kB_t hf c4
        refine z_aload_n (pc := 35) (k0 := 0) E dX5_takes_35 rfl rfl ?_
        refine z_dup (pc := 36) E dX5_takes_36 rfl ?_
        refine gR_6 (pc := 37) (i := 0) E rfl wd_18_19 dX5_takes_37 ?_
        refine z_iconst (pc := 40) (v := 1) E dX5_takes_40 (by decide) ?_
        obtain ⟨v5, e_v5, hf⟩ := kL_e hf
        refine z_iadd (pc := 41) (v := v5) E dX5_takes_41 e_v5 ?_
        obtain ⟨SR_6, e_SR_6, hf⟩ := kL_e hf
        refine pR_6 (pc := 42) (i := 0) (S1 := SR_6) E rfl e_SR_6 wd_18_19 dX5_takes_42 ?_
        show zJ p l e rm_X5_takes s m args below meth c (zQ G ct (some (.int r0)) [wR aR ct OR] A below args s 0 0) A G 2 0 0 [wR aR ct SR_6] [(0, .ref (aR 200)), (1, .int a1)] 45 []
        refine z_iconst (pc := 45) (v := 1) E dX5_takes_45 (by decide) ?_
        cases hf
        exact z_zret E hr (by decide) dX5_takes_46
      · have hf := kB_f hf c4
        refine z_iconst (pc := 33) (v := 0) E dX5_takes_33 (by decide) ?_
        cases hf
        exact z_zret E hr (by decide) dX5_takes_34
noncomputable def f_X5_puts (SR : zRS) (a1 : Int32) : Option (Int32 × zRS) := kB ((SR.1 7) < 100) (kL ((SR.1 7) + 1) (fun v2 => kL (rSI SR 7 v2) (fun SR_3 => kO (¬ ((SR.1 7) < 0 ∨ 100 ≤ Int32.toNatClampNeg (SR.1 7))) (kL (rSA SR_3 1 (upd (SR_3.2 1) (Int32.toNatClampNeg (SR.1 7)) a1)) (fun SR_5 => some (1, SR_5)))))) (some (0, SR))
theorem wv_X5_puts : zWV RX5 yX5_puts cX5_puts 2 (some .boolean) 1 := ⟨wd_24_16, wd_24_17, wd_2_0, wd_24_18, by decide +kernel⟩
def rm_X5_puts : Room := { frames := 0, cells := 0, slots := 0, locals := 0 }
set_option maxHeartbeats 4000000 in
set_option maxRecDepth 100000 in
theorem c_X5_puts {l : Launch} {G : va_G} {ct : Nat → ClassId} {aR : Nat → Nat} {SR : zRS} {a1 : Int32} {r0 : Int32} {OR : zRS} (hf : f_X5_puts SR a1 = some (r0, OR)) : zC l yX5_puts cX5_puts 2 (some .boolean) rm_X5_puts G ct [.ref (aR 200), .int a1] [wR aR ct SR] [wR aR ct OR] (some (.int r0)) 0 0 := by
  refine z_enter (own := RX5) (lv := [(0, .ref (aR 200)), (1, .int a1)]) (by decide) rfl (Nat.le_of_ble_eq_true rfl) rfl ?_
  intro p e s m args below meth c A E hr hnm
  unfold f_X5_puts at hf
  refine z_aload_n (pc := 0) (k0 := 0) E dX5_puts_0 rfl rfl ?_
  refine gR_7 (pc := 1) (i := 0) E rfl wd_18_20 dX5_puts_1 ?_
  refine z_bipush (pc := 4) (v := 100) E dX5_puts_4 (by decide) ?_
  refine z_icmp_lt (pc := 6) (tgt := 11) E dX5_puts_6 (by decide) (fun c1 => ?_) (fun c1 => ?_)
  · have hf := kB_t hf c1
    refine z_aload_n (pc := 11) (k0 := 0) E dX5_puts_11 rfl rfl ?_
    refine gR_1 (pc := 12) (i := 0) E rfl wd_3_11 dX5_puts_12 ?_
    refine z_aload_n (pc := 15) (k0 := 0) E dX5_puts_15 rfl rfl ?_
    refine z_dup (pc := 16) E dX5_puts_16 rfl ?_
    refine gR_7 (pc := 17) (i := 0) E rfl wd_18_20 dX5_puts_17 ?_
    refine z_dup_x1 (pc := 20) E dX5_puts_20 rfl rfl ?_
    refine z_iconst (pc := 21) (v := 1) E dX5_puts_21 (by decide) ?_
    obtain ⟨v2, e_v2, hf⟩ := kL_e hf
    refine z_iadd (pc := 22) (v := v2) E dX5_puts_22 e_v2 ?_
    obtain ⟨SR_3, e_SR_3, hf⟩ := kL_e hf
    refine pR_7 (pc := 23) (i := 0) (S1 := SR_3) E rfl e_SR_3 wd_18_20 dX5_puts_23 ?_
    show zJ p l e rm_X5_puts s m args below meth c (zQ G ct (some (.int r0)) [wR aR ct OR] A below args s 0 0) A G 2 0 0 [wR aR ct SR_3] [(0, .ref (aR 200)), (1, .int a1)] 26 [.int (SR.1 7), .ref (aR 1)]
    refine z_iload_n (pc := 26) (k0 := 1) E dX5_puts_26 rfl rfl ?_
    obtain ⟨c4, hf⟩ := kO_e hf
    obtain ⟨SR_5, e_SR_5, hf⟩ := kL_e hf
    refine sR_1 (pc := 27) (i := 0) (S1 := SR_5) E rfl c4 e_SR_5 dX5_puts_27 ?_
    show zJ p l e rm_X5_puts s m args below meth c (zQ G ct (some (.int r0)) [wR aR ct OR] A below args s 0 0) A G 2 0 0 [wR aR ct SR_5] [(0, .ref (aR 200)), (1, .int a1)] 28 []
    refine z_iconst (pc := 28) (v := 1) E dX5_puts_28 (by decide) ?_
    cases hf
    exact z_zret E hr (by decide) dX5_puts_29
  · have hf := kB_f hf c1
    refine z_iconst (pc := 9) (v := 0) E dX5_puts_9 (by decide) ?_
    cases hf
    exact z_zret E hr (by decide) dX5_puts_10
noncomputable def f_X5_oneOf (N : Nat) (SR : zRS) (i0 : Nat) : Option (Int32 × zRS) := kO (i0 < 4) (kB ((SR.1 5) ≤ (SR.1 6)) (some ((-1), SR)) (kB ((SR.1 6) < 100) (kO (¬ ((SR.1 6) < 0 ∨ 100 ≤ Int32.toNatClampNeg (SR.1 6))) (kL ((((SR.2 0) (Int32.toNatClampNeg (SR.1 6))).toUInt32 % 65536).toInt32) (fun v4 => kC (f_J0_indexOf_0f7a4 N i0 v4) (fun r5 => kB (r5 < 0) (some (r5, SR)) (kL ((SR.1 6) + 1) (fun v8 => kL (rSI SR 6 v8) (fun SR_9 => some (r5, SR_9)))))))) (some ((-1), SR))))
theorem wv_X5_oneOf : zWV RX5 yX5_oneOf cX5_oneOf 3 (some .int) 1 := ⟨wd_21_9, wd_21_10, wd_2_0, wd_21_11, by decide +kernel⟩
def rm_X5_oneOf : Room := { frames := 4, cells := 0, slots := 0, locals := 166 }
set_option maxHeartbeats 4000000 in
set_option maxRecDepth 100000 in
theorem c_X5_oneOf {adK adV : Nat → Nat} {tA : Nat} {l : Launch} {G : va_G} {ct : Nat → ClassId} {aR : Nat → Nat} {N : Nat} {SR : zRS} {i0 : Nat} {r0 : Int32} {OR : zRS} (hf : f_X5_oneOf N SR i0 = some (r0, OR)) : zCE adK adV tA l yX5_oneOf cX5_oneOf 3 (some .int) rm_X5_oneOf G ct [.ref (aR 200), .ref (adK i0)] [wR aR ct SR] [wR aR ct OR] (some (.int r0)) 0 0 := by
  refine z_enterE (own := RX5) (lv := [(0, .ref (aR 200)), (1, .ref (adK i0))]) (by decide) rfl (Nat.le_of_ble_eq_true rfl) rfl ?_
  intro p e s m args below meth c A E hr hnm hEnv
  unfold f_X5_oneOf at hf
  obtain ⟨hi0, hf⟩ := kO_e hf
  refine z_aload_n (pc := 0) (k0 := 0) E dX5_oneOf_0 rfl rfl ?_
  refine gR_6 (pc := 1) (i := 0) E rfl wd_18_19 dX5_oneOf_1 ?_
  refine z_aload_n (pc := 4) (k0 := 0) E dX5_oneOf_4 rfl rfl ?_
  refine gR_5 (pc := 5) (i := 0) E rfl wd_18_22 dX5_oneOf_5 ?_
  refine z_icmp_ge (pc := 8) (tgt := 20) E dX5_oneOf_8 (by decide) (fun c1 => ?_) (fun c1 => ?_)
  · have hf := kB_t hf c1
    refine z_iconst (pc := 20) (v := (-1)) E dX5_oneOf_20 (by decide) ?_
    cases hf
    exact z_iret E hr dX5_oneOf_21
  · have hf := kB_f hf c1
    refine z_aload_n (pc := 11) (k0 := 0) E dX5_oneOf_11 rfl rfl ?_
    refine gR_6 (pc := 12) (i := 0) E rfl wd_18_19 dX5_oneOf_12 ?_
    refine z_bipush (pc := 15) (v := 100) E dX5_oneOf_15 (by decide) ?_
    refine z_icmp_lt (pc := 17) (tgt := 22) E dX5_oneOf_17 (by decide) (fun c2 => ?_) (fun c2 => ?_)
    · have hf := kB_t hf c2
      refine z_aload_n (pc := 22) (k0 := 1) E dX5_oneOf_22 rfl rfl ?_
      refine z_aload_n (pc := 23) (k0 := 0) E dX5_oneOf_23 rfl rfl ?_
      refine gR_0 (pc := 24) (i := 0) E rfl wd_3_10 dX5_oneOf_24 ?_
      refine z_aload_n (pc := 27) (k0 := 0) E dX5_oneOf_27 rfl rfl ?_
      refine gR_6 (pc := 28) (i := 0) E rfl wd_18_19 dX5_oneOf_28 ?_
      obtain ⟨c3, hf⟩ := kO_e hf
      refine lR_0 (pc := 31) (i := 0) E rfl c3 dX5_oneOf_31 ?_
      obtain ⟨v4, e_v4, hf⟩ := kL_e hf
      refine z_i2c (pc := 32) (v := v4) E dX5_oneOf_32 e_v4 ?_
      obtain ⟨r5, h6, hf⟩ := kC_e hf
      refine z_callVE (pc := 33) (is := []) (Cc := []) (C1 := []) (n := 1) (As := [.int v4]) (st := []) (st' := [.int r5]) (C2 := [wR aR ct SR]) E hEnv (c_J0_indexOf_0f7a4 (adK := adK) (adV := adV) (tA := tA) (l := l) (G := G) (ct := ct) h6) wv_J0_indexOf_0f7a4 wd_21_12 ⟨Nat.le_of_ble_eq_true rfl, Nat.le_of_ble_eq_true rfl, Nat.le_of_ble_eq_true rfl, Nat.le_of_ble_eq_true rfl⟩ rfl rfl rfl (by decide) rfl rfl (z_strr hEnv hi0) rfl (Nat.le_of_ble_eq_true rfl) dX5_oneOf_33 rfl rfl ?_
      refine z_istore_n (pc := 36) (lv' := [(2, .int r5), (0, .ref (aR 200)), (1, .ref (adK i0))]) E dX5_oneOf_36 rfl (by decide) rfl ?_
      refine z_iload_n (pc := 37) (k0 := 0) E dX5_oneOf_37 rfl rfl ?_
      refine z_if_lt (pc := 38) (tgt := 51) E dX5_oneOf_38 (by decide) (fun c7 => ?_) (fun c7 => ?_)
      · have hf := kB_t hf c7
        refine z_iload_n (pc := 51) (k0 := 0) E dX5_oneOf_51 rfl rfl ?_
        cases hf
        exact z_iret E hr dX5_oneOf_52
      · have hf := kB_f hf c7
        refine z_aload_n (pc := 41) (k0 := 1) E dX5_oneOf_41 rfl rfl ?_
        refine z_dup (pc := 42) E dX5_oneOf_42 rfl ?_
        refine gR_6 (pc := 43) (i := 0) E rfl wd_18_19 dX5_oneOf_43 ?_
        refine z_iconst (pc := 46) (v := 1) E dX5_oneOf_46 (by decide) ?_
        obtain ⟨v8, e_v8, hf⟩ := kL_e hf
        refine z_iadd (pc := 47) (v := v8) E dX5_oneOf_47 e_v8 ?_
        obtain ⟨SR_9, e_SR_9, hf⟩ := kL_e hf
        refine pR_6 (pc := 48) (i := 0) (S1 := SR_9) E rfl e_SR_9 wd_18_19 dX5_oneOf_48 ?_
        show zJ p l e rm_X5_oneOf s m args below meth c (zQ G ct (some (.int r0)) [wR aR ct OR] A below args s 0 0) A G 3 0 0 [wR aR ct SR_9] [(2, .int r5), (0, .ref (aR 200)), (1, .ref (adK i0))] 51 []
        refine z_iload_n (pc := 51) (k0 := 0) E dX5_oneOf_51 rfl rfl ?_
        cases hf
        exact z_iret E hr dX5_oneOf_52
    · have hf := kB_f hf c2
      refine z_iconst (pc := 20) (v := (-1)) E dX5_oneOf_20 (by decide) ?_
      cases hf
      exact z_iret E hr dX5_oneOf_21
noncomputable def f_X5_number (N : Nat) (SR : zRS) : Option (Int32 × zRS) := kD (f_X5_oneOf N SR 1) (fun r1 S_2 => kB (0 ≤ r1) (kD (f_X5_oneOf N S_2 1) (fun r5 S_6 => kB (0 ≤ r5) (kL ((10 : Int32) * r1) (fun v9 => kL (v9 + r5) (fun v10 => some (v10, S_6)))) (some (r1, S_6)))) (some ((-1), S_2)))
theorem wv_X5_number : zWV RX5 yX5_number cX5_number 3 (some .int) 0 := ⟨wd_21_5, wd_21_6, wd_2_0, wd_21_7, by decide +kernel⟩
def rm_X5_number : Room := { frames := 5, cells := 0, slots := 0, locals := 188 }
set_option maxHeartbeats 4000000 in
set_option maxRecDepth 100000 in
theorem c_X5_number {adK adV : Nat → Nat} {tA : Nat} {l : Launch} {G : va_G} {ct : Nat → ClassId} {aR : Nat → Nat} {N : Nat} {SR : zRS} {r0 : Int32} {OR : zRS} (hf : f_X5_number N SR = some (r0, OR)) : zCE adK adV tA l yX5_number cX5_number 3 (some .int) rm_X5_number G ct [.ref (aR 200)] [wR aR ct SR] [wR aR ct OR] (some (.int r0)) 0 0 := by
  refine z_enterE (own := RX5) (lv := [(0, .ref (aR 200))]) (by decide) rfl (Nat.le_of_ble_eq_true rfl) rfl ?_
  intro p e s m args below meth c A E hr hnm hEnv
  unfold f_X5_number at hf
  refine z_aload_n (pc := 0) (k0 := 0) E dX5_number_0 rfl rfl ?_
  refine z_ldcS (pc := 1) (q := adK 1) E hEnv.2.1.2.1 dX5_number_1 ?_
  obtain ⟨r1, S_2, h3, hf⟩ := kD_e hf
  refine z_callVE (pc := 3) (is := [0]) (n := 1) (As := [.ref (adK 1)]) (st := []) (st' := [.int r1]) (C2 := [wR aR ct S_2]) E hEnv (c_X5_oneOf (adK := adK) (adV := adV) (tA := tA) (l := l) (G := G) (ct := ct) (aR := aR) h3) wv_X5_oneOf wd_21_8 ⟨Nat.le_of_ble_eq_true rfl, Nat.le_of_ble_eq_true rfl, Nat.le_of_ble_eq_true rfl, Nat.le_of_ble_eq_true rfl⟩ rfl rfl rfl (by decide) rfl rfl (z_rdr (i := 0) E rfl) rfl (Nat.le_of_ble_eq_true rfl) dX5_number_3 rfl rfl ?_
  refine z_istore_n (pc := 6) (lv' := [(1, .int r1), (0, .ref (aR 200))]) E dX5_number_6 rfl (by decide) rfl ?_
  refine z_iload_n (pc := 7) (k0 := 0) E dX5_number_7 rfl rfl ?_
  refine z_if_ge (pc := 8) (tgt := 13) E dX5_number_8 (by decide) (fun c4 => ?_) (fun c4 => ?_)
  · have hf := kB_t hf c4
    refine z_aload_n (pc := 13) (k0 := 1) E dX5_number_13 rfl rfl ?_
    refine z_ldcS (pc := 14) (q := adK 1) E hEnv.2.1.2.1 dX5_number_14 ?_
    obtain ⟨r5, S_6, h7, hf⟩ := kD_e hf
    refine z_callVE (pc := 16) (is := [0]) (n := 1) (As := [.ref (adK 1)]) (st := []) (st' := [.int r5]) (C2 := [wR aR ct S_6]) E hEnv (c_X5_oneOf (adK := adK) (adV := adV) (tA := tA) (l := l) (G := G) (ct := ct) (aR := aR) h7) wv_X5_oneOf wd_21_8 ⟨Nat.le_of_ble_eq_true rfl, Nat.le_of_ble_eq_true rfl, Nat.le_of_ble_eq_true rfl, Nat.le_of_ble_eq_true rfl⟩ rfl rfl rfl (by decide) rfl rfl (z_rdr (i := 0) E rfl) rfl (Nat.le_of_ble_eq_true rfl) dX5_number_16 rfl rfl ?_
    refine z_istore_n (pc := 19) (lv' := [(2, .int r5), (1, .int r1), (0, .ref (aR 200))]) E dX5_number_19 rfl (by decide) rfl ?_
    refine z_iload_n (pc := 20) (k0 := 0) E dX5_number_20 rfl rfl ?_
    refine z_if_ge (pc := 21) (tgt := 28) E dX5_number_21 (by decide) (fun c8 => ?_) (fun c8 => ?_)
    · have hf := kB_t hf c8
      refine z_bipush (pc := 28) (v := 10) E dX5_number_28 (by decide) ?_
      refine z_iload_n (pc := 30) (k0 := 1) E dX5_number_30 rfl rfl ?_
      obtain ⟨v9, e_v9, hf⟩ := kL_e hf
      refine z_imul (pc := 31) (v := v9) E dX5_number_31 e_v9 ?_
      refine z_iload_n (pc := 32) (k0 := 0) E dX5_number_32 rfl rfl ?_
      obtain ⟨v10, e_v10, hf⟩ := kL_e hf
      refine z_iadd (pc := 33) (v := v10) E dX5_number_33 e_v10 ?_
      cases hf
      exact z_iret E hr dX5_number_34
    · have hf := kB_f hf c8
      refine z_iload_n (pc := 24) (k0 := 1) E dX5_number_24 rfl rfl ?_
      refine z_goto (pc := 25) (tgt := 34) E dX5_number_25 (by decide) ?_
      cases hf
      exact z_iret E hr dX5_number_34
  · have hf := kB_f hf c4
    refine z_iconst (pc := 11) (v := (-1)) E dX5_number_11 (by decide) ?_
    cases hf
    exact z_iret E hr dX5_number_12
noncomputable def f_X5_word_b78 (N : Nat) (SR : zRS) (x1 : Int32) (y0 : Int32) : Option (Int32 × zRS) := kB (y0 = 0) (some ((-1), SR)) (some (x1, SR))
noncomputable def f_X5_word_b77 (N : Nat) (SR : zRS) (x1 : Int32) : Option (Int32 × zRS) := f_X5_word_b78 N SR x1 0
noncomputable def f_X5_word_l2 (N : Nat) : Nat → zRS → Int32 → Option (Int32 × zRS) := fun n => Nat.rec (motive := fun _ => zRS → Int32 → Option (Int32 × zRS)) (fun _ _ => none) (fun _ ih SR x1 => kB (3 < x1) (some ((-1), SR)) (kL ((4 : Int32) * x1) (fun v2 => kC (f_J0_charAt_5068e 0 v2) (fun r3 => kD (f_X5_takes SR r3) (fun r5 S_6 => kB (r5 = 0) (kL (x1 + 1) (fun v9 => ih S_6 v9)) (kL ((4 : Int32) * x1) (fun v10 => kL (v10 + 1) (fun v11 => kC (f_J0_charAt_5068e 0 v11) (fun r12 => kD (f_X5_takes S_6 r12) (fun r14 S_15 => kB (r14 = 0) (f_X5_word_b77 N S_15 x1) (kL ((4 : Int32) * x1) (fun v18 => kL (v18 + 2) (fun v19 => kC (f_J0_charAt_5068e 0 v19) (fun r20 => kD (f_X5_takes S_15 r20) (fun r22 S_23 => kB (r22 = 0) (f_X5_word_b77 N S_23 x1) (kL ((4 : Int32) * x1) (fun v26 => kL (v26 + 3) (fun v27 => kC (f_J0_charAt_5068e 0 v27) (fun r28 => kD (f_X5_takes S_23 r28) (fun r30 S_31 => kB (r30 = 0) (f_X5_word_b77 N S_31 x1) (f_X5_word_b78 N S_31 x1 1))))))))))))))))))))) n
theorem f_X5_word_l2_z (N : Nat) (SR : zRS) (x1 : Int32) : f_X5_word_l2 N 0 SR x1 = none := rfl
theorem f_X5_word_l2_s (N : Nat) (n : Nat) (SR : zRS) (x1 : Int32) : f_X5_word_l2 N (n + 1) SR x1 = kB (3 < x1) (some ((-1), SR)) (kL ((4 : Int32) * x1) (fun v2 => kC (f_J0_charAt_5068e 0 v2) (fun r3 => kD (f_X5_takes SR r3) (fun r5 S_6 => kB (r5 = 0) (kL (x1 + 1) (fun v9 => (f_X5_word_l2 N n) S_6 v9)) (kL ((4 : Int32) * x1) (fun v10 => kL (v10 + 1) (fun v11 => kC (f_J0_charAt_5068e 0 v11) (fun r12 => kD (f_X5_takes S_6 r12) (fun r14 S_15 => kB (r14 = 0) (f_X5_word_b77 N S_15 x1) (kL ((4 : Int32) * x1) (fun v18 => kL (v18 + 2) (fun v19 => kC (f_J0_charAt_5068e 0 v19) (fun r20 => kD (f_X5_takes S_15 r20) (fun r22 S_23 => kB (r22 = 0) (f_X5_word_b77 N S_23 x1) (kL ((4 : Int32) * x1) (fun v26 => kL (v26 + 3) (fun v27 => kC (f_J0_charAt_5068e 0 v27) (fun r28 => kD (f_X5_takes S_23 r28) (fun r30 S_31 => kB (r30 = 0) (f_X5_word_b77 N S_31 x1) (f_X5_word_b78 N S_31 x1 1)))))))))))))))))))) := rfl
noncomputable def f_X5_word (N : Nat) (SR : zRS) : Option (Int32 × zRS) := f_X5_word_l2 N N SR 0
theorem wv_X5_word : zWV RX5 yX5_word cX5_word 3 (some .int) 0 := ⟨wd_19_4, wd_19_5, wd_2_0, wd_19_6, by decide +kernel⟩
def rm_X5_word : Room := { frames := 4, cells := 0, slots := 0, locals := 85 }
set_option maxHeartbeats 4000000 in
set_option maxRecDepth 100000 in
theorem c_X5_word {adK adV : Nat → Nat} {tA : Nat} {l : Launch} {G : va_G} {ct : Nat → ClassId} {aR : Nat → Nat} {N : Nat} {SR : zRS} {r0 : Int32} {OR : zRS} (hf : f_X5_word N SR = some (r0, OR)) : zCE adK adV tA l yX5_word cX5_word 3 (some .int) rm_X5_word G ct [.ref (aR 200)] [wR aR ct SR] [wR aR ct OR] (some (.int r0)) 0 0 := by
  refine z_enterE (own := RX5) (lv := [(0, .ref (aR 200))]) (by decide) rfl (Nat.le_of_ble_eq_true rfl) rfl ?_
  intro p e s m args below meth c A E hr hnm hEnv
  have B78 : ∀ (SR : zRS) (x1 : Int32) (y0 : Int32), f_X5_word_b78 N SR x1 y0 = some (r0, OR) → zJ p l e rm_X5_word s m args below meth c (zQ G ct (some (.int r0)) [wR aR ct OR] A below args s 0 0) A G 3 0 0 [wR aR ct SR] [(1, .int x1)] 78 [.int y0] := by
    intro SR x1 y0 hf
    unfold f_X5_word_b78 at hf
    refine z_istore_n (pc := 78) (lv' := [(2, .int y0), (1, .int x1)]) E dX5_word_78 rfl (by decide) rfl ?_
    refine z_iload_n (pc := 79) (k0 := 0) E dX5_word_79 rfl rfl ?_
    refine z_if_eq (pc := 80) (tgt := 87) E dX5_word_80 (by decide) (fun c34 => ?_) (fun c34 => ?_)
    · have hf := kB_t hf c34
      refine z_iconst (pc := 87) (v := (-1)) E dX5_word_87 (by decide) ?_
      cases hf
      exact z_iret E hr dX5_word_88
    · have hf := kB_f hf c34
      refine z_iload_n (pc := 83) (k0 := 1) E dX5_word_83 rfl rfl ?_
      refine z_goto (pc := 84) (tgt := 88) E dX5_word_84 (by decide) ?_
      cases hf
      exact z_iret E hr dX5_word_88
  have B77 : ∀ (SR : zRS) (x1 : Int32), f_X5_word_b77 N SR x1 = some (r0, OR) → zJ p l e rm_X5_word s m args below meth c (zQ G ct (some (.int r0)) [wR aR ct OR] A below args s 0 0) A G 3 0 0 [wR aR ct SR] [(1, .int x1)] 77 [] := by
    intro SR x1 hf
    unfold f_X5_word_b77 at hf
    refine z_iconst (pc := 77) (v := 0) E dX5_word_77 (by decide) ?_
    exact B78 SR x1 0 hf
  have L2 : ∀ (n2 : Nat) (SR : zRS) (x1 : Int32), f_X5_word_l2 N n2 SR x1 = some (r0, OR) → zJ p l e rm_X5_word s m args below meth c (zQ G ct (some (.int r0)) [wR aR ct OR] A below args s 0 0) A G 3 0 0 [wR aR ct SR] [(0, .ref (aR 200)), (1, .int x1)] 2 [] := by
    intro n2
    induction n2 with
    | zero =>
      intro SR x1 hf
      rw [f_X5_word_l2_z] at hf
      cases hf
    | succ n2 ih2 =>
      intro SR x1 hf
      rw [f_X5_word_l2_s] at hf
      refine z_iload_n (pc := 2) (k0 := 1) E dX5_word_2 rfl rfl ?_
      refine z_iconst (pc := 3) (v := 3) E dX5_word_3 (by decide) ?_
      refine z_icmp_gt (pc := 4) (tgt := 95) E dX5_word_4 (by decide) (fun c1 => ?_) (fun c1 => ?_)
      · have hf := kB_t hf c1
        refine z_iconst (pc := 95) (v := (-1)) E dX5_word_95 (by decide) ?_
        cases hf
        exact z_iret E hr dX5_word_96
      · have hf := kB_f hf c1
        refine z_aload_n (pc := 7) (k0 := 0) E dX5_word_7 rfl rfl ?_
        refine z_ldcS (pc := 8) (q := adK 0) E hEnv.2.1.1 dX5_word_8 ?_
        refine z_iconst (pc := 10) (v := 4) E dX5_word_10 (by decide) ?_
        refine z_iload_n (pc := 11) (k0 := 1) E dX5_word_11 rfl rfl ?_
        obtain ⟨v2, e_v2, hf⟩ := kL_e hf
        refine z_imul (pc := 12) (v := v2) E dX5_word_12 e_v2 ?_
        obtain ⟨r3, h4, hf⟩ := kC_e hf
        refine z_callVE (pc := 13) (is := []) (Cc := []) (C1 := []) (n := 1) (As := [.int v2]) (st := [.ref (aR 200)]) (st' := [.int r3, .ref (aR 200)]) (C2 := [wR aR ct SR]) E hEnv (c_J0_charAt_5068e (adK := adK) (adV := adV) (tA := tA) (l := l) (G := G) (ct := ct) h4) wv_J0_charAt_5068e wd_19_7 ⟨Nat.le_of_ble_eq_true rfl, Nat.le_of_ble_eq_true rfl, Nat.le_of_ble_eq_true rfl, Nat.le_of_ble_eq_true rfl⟩ rfl rfl rfl (by decide) rfl rfl (z_strr hEnv (by decide)) rfl (Nat.le_of_ble_eq_true rfl) dX5_word_13 rfl rfl ?_
        obtain ⟨r5, S_6, h7, hf⟩ := kD_e hf
        refine z_callV0 (pc := 16) (is := [0]) (n := 1) (As := [.int r3]) (st := []) (st' := [.int r5]) (C2 := [wR aR ct S_6]) E (c_X5_takes (l := l) (G := G) (ct := ct) (aR := aR) h7) wv_X5_takes wd_21_0 ⟨Nat.le_of_ble_eq_true rfl, Nat.le_of_ble_eq_true rfl, Nat.le_of_ble_eq_true rfl, Nat.le_of_ble_eq_true rfl⟩ rfl rfl rfl (by decide) rfl rfl (zrR (j := 0) rfl) rfl (Nat.le_of_ble_eq_true rfl) dX5_word_16 rfl rfl ?_
        refine z_if_eq (pc := 19) (tgt := 89) E dX5_word_19 (by decide) (fun c8 => ?_) (fun c8 => ?_)
        · have hf := kB_t hf c8
          obtain ⟨v9, e_v9, hf⟩ := kL_e hf
          refine z_iinc (pc := 89) (k0 := 1) (v := v9) (lv' := [(1, .int v9), (0, .ref (aR 200))]) E dX5_word_89 rfl e_v9 (by decide) rfl ?_
          refine z_goto (pc := 92) (tgt := 2) E dX5_word_92 (by decide) ?_
          refine z_sub [1, 0] (lv' := [(0, .ref (aR 200)), (1, .int v9)]) rfl ?_
          exact ih2 S_6 v9 hf
        · have hf := kB_f hf c8
          refine z_aload_n (pc := 22) (k0 := 0) E dX5_word_22 rfl rfl ?_
          refine z_ldcS (pc := 23) (q := adK 0) E hEnv.2.1.1 dX5_word_23 ?_
          refine z_iconst (pc := 25) (v := 4) E dX5_word_25 (by decide) ?_
          refine z_iload_n (pc := 26) (k0 := 1) E dX5_word_26 rfl rfl ?_
          obtain ⟨v10, e_v10, hf⟩ := kL_e hf
          refine z_imul (pc := 27) (v := v10) E dX5_word_27 e_v10 ?_
          refine z_iconst (pc := 28) (v := 1) E dX5_word_28 (by decide) ?_
          obtain ⟨v11, e_v11, hf⟩ := kL_e hf
          refine z_iadd (pc := 29) (v := v11) E dX5_word_29 e_v11 ?_
          obtain ⟨r12, h13, hf⟩ := kC_e hf
          refine z_callVE (pc := 30) (is := []) (Cc := []) (C1 := []) (n := 1) (As := [.int v11]) (st := [.ref (aR 200)]) (st' := [.int r12, .ref (aR 200)]) (C2 := [wR aR ct S_6]) E hEnv (c_J0_charAt_5068e (adK := adK) (adV := adV) (tA := tA) (l := l) (G := G) (ct := ct) h13) wv_J0_charAt_5068e wd_19_7 ⟨Nat.le_of_ble_eq_true rfl, Nat.le_of_ble_eq_true rfl, Nat.le_of_ble_eq_true rfl, Nat.le_of_ble_eq_true rfl⟩ rfl rfl rfl (by decide) rfl rfl (z_strr hEnv (by decide)) rfl (Nat.le_of_ble_eq_true rfl) dX5_word_30 rfl rfl ?_
          obtain ⟨r14, S_15, h16, hf⟩ := kD_e hf
          refine z_callV0 (pc := 33) (is := [0]) (n := 1) (As := [.int r12]) (st := []) (st' := [.int r14]) (C2 := [wR aR ct S_15]) E (c_X5_takes (l := l) (G := G) (ct := ct) (aR := aR) h16) wv_X5_takes wd_21_0 ⟨Nat.le_of_ble_eq_true rfl, Nat.le_of_ble_eq_true rfl, Nat.le_of_ble_eq_true rfl, Nat.le_of_ble_eq_true rfl⟩ rfl rfl rfl (by decide) rfl rfl (zrR (j := 0) rfl) rfl (Nat.le_of_ble_eq_true rfl) dX5_word_33 rfl rfl ?_
          refine z_if_eq (pc := 36) (tgt := 77) E dX5_word_36 (by decide) (fun c17 => ?_) (fun c17 => ?_)
          · have hf := kB_t hf c17
            refine z_sub [1] (lv' := [(1, .int x1)]) rfl ?_
            exact B77 S_15 x1 hf
          · have hf := kB_f hf c17
            refine z_aload_n (pc := 39) (k0 := 0) E dX5_word_39 rfl rfl ?_
            refine z_ldcS (pc := 40) (q := adK 0) E hEnv.2.1.1 dX5_word_40 ?_
            refine z_iconst (pc := 42) (v := 4) E dX5_word_42 (by decide) ?_
            refine z_iload_n (pc := 43) (k0 := 1) E dX5_word_43 rfl rfl ?_
            obtain ⟨v18, e_v18, hf⟩ := kL_e hf
            refine z_imul (pc := 44) (v := v18) E dX5_word_44 e_v18 ?_
            refine z_iconst (pc := 45) (v := 2) E dX5_word_45 (by decide) ?_
            obtain ⟨v19, e_v19, hf⟩ := kL_e hf
            refine z_iadd (pc := 46) (v := v19) E dX5_word_46 e_v19 ?_
            obtain ⟨r20, h21, hf⟩ := kC_e hf
            refine z_callVE (pc := 47) (is := []) (Cc := []) (C1 := []) (n := 1) (As := [.int v19]) (st := [.ref (aR 200)]) (st' := [.int r20, .ref (aR 200)]) (C2 := [wR aR ct S_15]) E hEnv (c_J0_charAt_5068e (adK := adK) (adV := adV) (tA := tA) (l := l) (G := G) (ct := ct) h21) wv_J0_charAt_5068e wd_19_7 ⟨Nat.le_of_ble_eq_true rfl, Nat.le_of_ble_eq_true rfl, Nat.le_of_ble_eq_true rfl, Nat.le_of_ble_eq_true rfl⟩ rfl rfl rfl (by decide) rfl rfl (z_strr hEnv (by decide)) rfl (Nat.le_of_ble_eq_true rfl) dX5_word_47 rfl rfl ?_
            obtain ⟨r22, S_23, h24, hf⟩ := kD_e hf
            refine z_callV0 (pc := 50) (is := [0]) (n := 1) (As := [.int r20]) (st := []) (st' := [.int r22]) (C2 := [wR aR ct S_23]) E (c_X5_takes (l := l) (G := G) (ct := ct) (aR := aR) h24) wv_X5_takes wd_21_0 ⟨Nat.le_of_ble_eq_true rfl, Nat.le_of_ble_eq_true rfl, Nat.le_of_ble_eq_true rfl, Nat.le_of_ble_eq_true rfl⟩ rfl rfl rfl (by decide) rfl rfl (zrR (j := 0) rfl) rfl (Nat.le_of_ble_eq_true rfl) dX5_word_50 rfl rfl ?_
            refine z_if_eq (pc := 53) (tgt := 77) E dX5_word_53 (by decide) (fun c25 => ?_) (fun c25 => ?_)
            · have hf := kB_t hf c25
              refine z_sub [1] (lv' := [(1, .int x1)]) rfl ?_
              exact B77 S_23 x1 hf
            · have hf := kB_f hf c25
              refine z_aload_n (pc := 56) (k0 := 0) E dX5_word_56 rfl rfl ?_
              refine z_ldcS (pc := 57) (q := adK 0) E hEnv.2.1.1 dX5_word_57 ?_
              refine z_iconst (pc := 59) (v := 4) E dX5_word_59 (by decide) ?_
              refine z_iload_n (pc := 60) (k0 := 1) E dX5_word_60 rfl rfl ?_
              obtain ⟨v26, e_v26, hf⟩ := kL_e hf
              refine z_imul (pc := 61) (v := v26) E dX5_word_61 e_v26 ?_
              refine z_iconst (pc := 62) (v := 3) E dX5_word_62 (by decide) ?_
              obtain ⟨v27, e_v27, hf⟩ := kL_e hf
              refine z_iadd (pc := 63) (v := v27) E dX5_word_63 e_v27 ?_
              obtain ⟨r28, h29, hf⟩ := kC_e hf
              refine z_callVE (pc := 64) (is := []) (Cc := []) (C1 := []) (n := 1) (As := [.int v27]) (st := [.ref (aR 200)]) (st' := [.int r28, .ref (aR 200)]) (C2 := [wR aR ct S_23]) E hEnv (c_J0_charAt_5068e (adK := adK) (adV := adV) (tA := tA) (l := l) (G := G) (ct := ct) h29) wv_J0_charAt_5068e wd_19_7 ⟨Nat.le_of_ble_eq_true rfl, Nat.le_of_ble_eq_true rfl, Nat.le_of_ble_eq_true rfl, Nat.le_of_ble_eq_true rfl⟩ rfl rfl rfl (by decide) rfl rfl (z_strr hEnv (by decide)) rfl (Nat.le_of_ble_eq_true rfl) dX5_word_64 rfl rfl ?_
              obtain ⟨r30, S_31, h32, hf⟩ := kD_e hf
              refine z_callV0 (pc := 67) (is := [0]) (n := 1) (As := [.int r28]) (st := []) (st' := [.int r30]) (C2 := [wR aR ct S_31]) E (c_X5_takes (l := l) (G := G) (ct := ct) (aR := aR) h32) wv_X5_takes wd_21_0 ⟨Nat.le_of_ble_eq_true rfl, Nat.le_of_ble_eq_true rfl, Nat.le_of_ble_eq_true rfl, Nat.le_of_ble_eq_true rfl⟩ rfl rfl rfl (by decide) rfl rfl (zrR (j := 0) rfl) rfl (Nat.le_of_ble_eq_true rfl) dX5_word_67 rfl rfl ?_
              refine z_if_eq (pc := 70) (tgt := 77) E dX5_word_70 (by decide) (fun c33 => ?_) (fun c33 => ?_)
              · have hf := kB_t hf c33
                refine z_sub [1] (lv' := [(1, .int x1)]) rfl ?_
                exact B77 S_31 x1 hf
              · have hf := kB_f hf c33
                refine z_iconst (pc := 73) (v := 1) E dX5_word_73 (by decide) ?_
                refine z_goto (pc := 74) (tgt := 78) E dX5_word_74 (by decide) ?_
                refine z_sub [1] (lv' := [(1, .int x1)]) rfl ?_
                exact B78 S_31 x1 1 hf
  unfold f_X5_word at hf
  refine z_iconst (pc := 0) (v := 0) E dX5_word_0 (by decide) ?_
  refine z_istore_n (pc := 1) (lv' := [(1, .int 0), (0, .ref (aR 200))]) E dX5_word_1 rfl (by decide) rfl ?_
  refine z_sub [1, 0] (lv' := [(0, .ref (aR 200)), (1, .int 0)]) rfl ?_
  exact L2 N SR 0 hf
