noncomputable def f_X12_undo_l239 (N : Nat) : Nat → zMS → Int32 → Option (Int32 × zMS) := fun n => Nat.rec (motive := fun _ => zMS → Int32 → Option (Int32 × zMS)) (fun _ _ => none) (fun _ ih SM x1 => kB (12 ≤ x1) (some ((SM.1 1), SM)) (kO (¬ (x1 < 0 ∨ 12 ≤ Int32.toNatClampNeg x1)) (kO (¬ (x1 < 0 ∨ 12 ≤ Int32.toNatClampNeg x1)) (kL (mSA SM 49 (upd (SM.2.1 49) (Int32.toNatClampNeg x1) (SM.2.1 68 (Int32.toNatClampNeg x1)))) (fun SM_46 => kL (x1 + 1) (fun v47 => ih SM_46 v47)))))) n
theorem f_X12_undo_l239_z (N : Nat) (SM : zMS) (x1 : Int32) : f_X12_undo_l239 N 0 SM x1 = none := rfl
theorem f_X12_undo_l239_s (N : Nat) (n : Nat) (SM : zMS) (x1 : Int32) : f_X12_undo_l239 N (n + 1) SM x1 = kB (12 ≤ x1) (some ((SM.1 1), SM)) (kO (¬ (x1 < 0 ∨ 12 ≤ Int32.toNatClampNeg x1)) (kO (¬ (x1 < 0 ∨ 12 ≤ Int32.toNatClampNeg x1)) (kL (mSA SM 49 (upd (SM.2.1 49) (Int32.toNatClampNeg x1) (SM.2.1 68 (Int32.toNatClampNeg x1)))) (fun SM_46 => kL (x1 + 1) (fun v47 => (f_X12_undo_l239 N n) SM_46 v47))))) := rfl
noncomputable def f_X12_undo_l213 (N : Nat) : Nat → zMS → Int32 → Option (Int32 × zMS) := fun n => Nat.rec (motive := fun _ => zMS → Int32 → Option (Int32 × zMS)) (fun _ _ => none) (fun _ ih SM x1 => kB (8 ≤ x1) (f_X12_undo_l239 N N SM 0) (kO (¬ (x1 < 0 ∨ 8 ≤ Int32.toNatClampNeg x1)) (kO (¬ (x1 < 0 ∨ 8 ≤ Int32.toNatClampNeg x1)) (kO ((SM.2.1 69 (Int32.toNatClampNeg x1)) = 0 ∨ (SM.2.1 69 (Int32.toNatClampNeg x1)) = 1) (kL (mSA SM 47 (upd (SM.2.1 47) (Int32.toNatClampNeg x1) (SM.2.1 69 (Int32.toNatClampNeg x1)))) (fun SM_41 => kL (x1 + 1) (fun v42 => ih SM_41 v42))))))) n
theorem f_X12_undo_l213_z (N : Nat) (SM : zMS) (x1 : Int32) : f_X12_undo_l213 N 0 SM x1 = none := rfl
theorem f_X12_undo_l213_s (N : Nat) (n : Nat) (SM : zMS) (x1 : Int32) : f_X12_undo_l213 N (n + 1) SM x1 = kB (8 ≤ x1) (f_X12_undo_l239 N N SM 0) (kO (¬ (x1 < 0 ∨ 8 ≤ Int32.toNatClampNeg x1)) (kO (¬ (x1 < 0 ∨ 8 ≤ Int32.toNatClampNeg x1)) (kO ((SM.2.1 69 (Int32.toNatClampNeg x1)) = 0 ∨ (SM.2.1 69 (Int32.toNatClampNeg x1)) = 1) (kL (mSA SM 47 (upd (SM.2.1 47) (Int32.toNatClampNeg x1) (SM.2.1 69 (Int32.toNatClampNeg x1)))) (fun SM_41 => kL (x1 + 1) (fun v42 => (f_X12_undo_l213 N n) SM_41 v42)))))) := rfl
noncomputable def f_X12_undo_l187 (N : Nat) : Nat → zMS → Int32 → Option (Int32 × zMS) := fun n => Nat.rec (motive := fun _ => zMS → Int32 → Option (Int32 × zMS)) (fun _ _ => none) (fun _ ih SM x1 => kB (16 ≤ x1) (f_X12_undo_l213 N N SM 0) (kO (¬ (x1 < 0 ∨ 16 ≤ Int32.toNatClampNeg x1)) (kO (¬ (x1 < 0 ∨ 16 ≤ Int32.toNatClampNeg x1)) (kL (mSA SM 13 (upd (SM.2.1 13) (Int32.toNatClampNeg x1) (SM.2.1 67 (Int32.toNatClampNeg x1)))) (fun SM_35 => kL (x1 + 1) (fun v36 => ih SM_35 v36)))))) n
theorem f_X12_undo_l187_z (N : Nat) (SM : zMS) (x1 : Int32) : f_X12_undo_l187 N 0 SM x1 = none := rfl
theorem f_X12_undo_l187_s (N : Nat) (n : Nat) (SM : zMS) (x1 : Int32) : f_X12_undo_l187 N (n + 1) SM x1 = kB (16 ≤ x1) (f_X12_undo_l213 N N SM 0) (kO (¬ (x1 < 0 ∨ 16 ≤ Int32.toNatClampNeg x1)) (kO (¬ (x1 < 0 ∨ 16 ≤ Int32.toNatClampNeg x1)) (kL (mSA SM 13 (upd (SM.2.1 13) (Int32.toNatClampNeg x1) (SM.2.1 67 (Int32.toNatClampNeg x1)))) (fun SM_35 => kL (x1 + 1) (fun v36 => (f_X12_undo_l187 N n) SM_35 v36))))) := rfl
noncomputable def f_X12_undo_l150 (N : Nat) : Nat → zMS → Int32 → Option (Int32 × zMS) := fun n => Nat.rec (motive := fun _ => zMS → Int32 → Option (Int32 × zMS)) (fun _ _ => none) (fun _ ih SM x1 => kB (4 ≤ x1) (f_X12_undo_l187 N N SM 0) (kO (¬ (x1 < 0 ∨ 4 ≤ Int32.toNatClampNeg x1)) (kO (¬ (x1 < 0 ∨ 4 ≤ Int32.toNatClampNeg x1)) (kL (mSA SM 11 (upd (SM.2.1 11) (Int32.toNatClampNeg x1) (SM.2.1 65 (Int32.toNatClampNeg x1)))) (fun SM_27 => kO (¬ (x1 < 0 ∨ 4 ≤ Int32.toNatClampNeg x1)) (kO (¬ (x1 < 0 ∨ 4 ≤ Int32.toNatClampNeg x1)) (kL (mSA SM_27 12 (upd (SM_27.2.1 12) (Int32.toNatClampNeg x1) (SM_27.2.1 66 (Int32.toNatClampNeg x1)))) (fun SM_30 => kL (x1 + 1) (fun v31 => ih SM_30 v31))))))))) n
theorem f_X12_undo_l150_z (N : Nat) (SM : zMS) (x1 : Int32) : f_X12_undo_l150 N 0 SM x1 = none := rfl
theorem f_X12_undo_l150_s (N : Nat) (n : Nat) (SM : zMS) (x1 : Int32) : f_X12_undo_l150 N (n + 1) SM x1 = kB (4 ≤ x1) (f_X12_undo_l187 N N SM 0) (kO (¬ (x1 < 0 ∨ 4 ≤ Int32.toNatClampNeg x1)) (kO (¬ (x1 < 0 ∨ 4 ≤ Int32.toNatClampNeg x1)) (kL (mSA SM 11 (upd (SM.2.1 11) (Int32.toNatClampNeg x1) (SM.2.1 65 (Int32.toNatClampNeg x1)))) (fun SM_27 => kO (¬ (x1 < 0 ∨ 4 ≤ Int32.toNatClampNeg x1)) (kO (¬ (x1 < 0 ∨ 4 ≤ Int32.toNatClampNeg x1)) (kL (mSA SM_27 12 (upd (SM_27.2.1 12) (Int32.toNatClampNeg x1) (SM_27.2.1 66 (Int32.toNatClampNeg x1)))) (fun SM_30 => kL (x1 + 1) (fun v31 => (f_X12_undo_l150 N n) SM_30 v31)))))))) := rfl
noncomputable def f_X12_undo_l100 (N : Nat) : Nat → zMS → Int32 → Option (Int32 × zMS) := fun n => Nat.rec (motive := fun _ => zMS → Int32 → Option (Int32 × zMS)) (fun _ _ => none) (fun _ ih SM x1 => kB (7 ≤ x1) (f_X12_undo_l150 N N SM 0) (kO (¬ (x1 < 0 ∨ 7 ≤ Int32.toNatClampNeg x1)) (kO (¬ (x1 < 0 ∨ 7 ≤ Int32.toNatClampNeg x1)) (kL (mSA SM 8 (upd (SM.2.1 8) (Int32.toNatClampNeg x1) (SM.2.1 62 (Int32.toNatClampNeg x1)))) (fun SM_16 => kO (¬ (x1 < 0 ∨ 7 ≤ Int32.toNatClampNeg x1)) (kO (¬ (x1 < 0 ∨ 7 ≤ Int32.toNatClampNeg x1)) (kL (mSA SM_16 9 (upd (SM_16.2.1 9) (Int32.toNatClampNeg x1) (SM_16.2.1 63 (Int32.toNatClampNeg x1)))) (fun SM_19 => kO (¬ (x1 < 0 ∨ 7 ≤ Int32.toNatClampNeg x1)) (kO (¬ (x1 < 0 ∨ 7 ≤ Int32.toNatClampNeg x1)) (kL (mSA SM_19 10 (upd (SM_19.2.1 10) (Int32.toNatClampNeg x1) (SM_19.2.1 64 (Int32.toNatClampNeg x1)))) (fun SM_22 => kL (x1 + 1) (fun v23 => ih SM_22 v23)))))))))))) n
theorem f_X12_undo_l100_z (N : Nat) (SM : zMS) (x1 : Int32) : f_X12_undo_l100 N 0 SM x1 = none := rfl
theorem f_X12_undo_l100_s (N : Nat) (n : Nat) (SM : zMS) (x1 : Int32) : f_X12_undo_l100 N (n + 1) SM x1 = kB (7 ≤ x1) (f_X12_undo_l150 N N SM 0) (kO (¬ (x1 < 0 ∨ 7 ≤ Int32.toNatClampNeg x1)) (kO (¬ (x1 < 0 ∨ 7 ≤ Int32.toNatClampNeg x1)) (kL (mSA SM 8 (upd (SM.2.1 8) (Int32.toNatClampNeg x1) (SM.2.1 62 (Int32.toNatClampNeg x1)))) (fun SM_16 => kO (¬ (x1 < 0 ∨ 7 ≤ Int32.toNatClampNeg x1)) (kO (¬ (x1 < 0 ∨ 7 ≤ Int32.toNatClampNeg x1)) (kL (mSA SM_16 9 (upd (SM_16.2.1 9) (Int32.toNatClampNeg x1) (SM_16.2.1 63 (Int32.toNatClampNeg x1)))) (fun SM_19 => kO (¬ (x1 < 0 ∨ 7 ≤ Int32.toNatClampNeg x1)) (kO (¬ (x1 < 0 ∨ 7 ≤ Int32.toNatClampNeg x1)) (kL (mSA SM_19 10 (upd (SM_19.2.1 10) (Int32.toNatClampNeg x1) (SM_19.2.1 64 (Int32.toNatClampNeg x1)))) (fun SM_22 => kL (x1 + 1) (fun v23 => (f_X12_undo_l100 N n) SM_22 v23))))))))))) := rfl
noncomputable def f_X12_undo (N : Nat) (SM : zMS) : Option (Int32 × zMS) := kB ((SM.1 50) = 0) (some ((-3), SM)) (kL (mSI SM 15 (SM.1 51)) (fun SM_2 => kL (mSI SM_2 0 (SM_2.1 52)) (fun SM_3 => kL (mSI SM_3 1 (SM_3.1 53)) (fun SM_4 => kL (mSI SM_4 2 (SM_4.1 54)) (fun SM_5 => kL (mSI SM_5 3 (SM_5.1 55)) (fun SM_6 => kL (mSI SM_6 4 (SM_6.1 56)) (fun SM_7 => kL (mSI SM_7 5 (SM_7.1 57)) (fun SM_8 => kL (mSI SM_8 6 (SM_8.1 58)) (fun SM_9 => kL (mSI SM_9 7 (SM_9.1 59)) (fun SM_10 => kL (mSI SM_10 46 (SM_10.1 60)) (fun SM_11 => kL (mSI SM_11 48 (SM_11.1 61)) (fun SM_12 => f_X12_undo_l100 N N SM_12 0))))))))))))
theorem wv_X12_undo : zWV RX12 yX12_undo cX12_undo 2 (some .int) 0 := ⟨wd_44_2, wd_44_3, wd_1_5, wd_44_4, by decide +kernel⟩
def rm_X12_undo : Room := { frames := 0, cells := 0, slots := 0, locals := 0 }
set_option maxHeartbeats 4000000 in
set_option maxRecDepth 100000 in
theorem c_X12_undo {l : Launch} {G : va_G} {ct : Nat → ClassId} {aM : Nat → Nat} {N : Nat} {SM : zMS} {r0 : Int32} {OM : zMS} (hf : f_X12_undo N SM = some (r0, OM)) : zC l yX12_undo cX12_undo 2 (some .int) rm_X12_undo G ct [.ref (aM 200)] [wM aM ct SM] [wM aM ct OM] (some (.int r0)) 0 0 := by
  refine z_enter (own := RX12) (lv := [(0, .ref (aM 200))]) (by decide) rfl (Nat.le_of_ble_eq_true rfl) rfl ?_
  intro p e s m args below meth c A E hr hnm
  have L239 : ∀ (n239 : Nat) (SM : zMS) (x1 : Int32), f_X12_undo_l239 N n239 SM x1 = some (r0, OM) → zJ p l e rm_X12_undo s m args below meth c (zQ G ct (some (.int r0)) [wM aM ct OM] A below args s 0 0) A G 2 0 0 [wM aM ct SM] [(0, .ref (aM 200)), (1, .int x1)] 239 [] := by
    intro n239
    induction n239 with
    | zero =>
      intro SM x1 hf
      rw [f_X12_undo_l239_z] at hf
      cases hf
    | succ n239 ih239 =>
      intro SM x1 hf
      rw [f_X12_undo_l239_s] at hf
      refine z_iload_n (pc := 239) (k0 := 1) E dX12_undo_239 rfl rfl ?_
      refine z_bipush (pc := 240) (v := 12) E dX12_undo_240 (by decide) ?_
      refine z_icmp_ge (pc := 242) (tgt := 263) E dX12_undo_242 (by decide) (fun c43 => ?_) (fun c43 => ?_)
      · have hf := kB_t hf c43
        refine z_aload_n (pc := 263) (k0 := 0) E dX12_undo_263 rfl rfl ?_
        refine gM_1 (pc := 264) (i := 0) E rfl wd_3_20 dX12_undo_264 ?_
        cases hf
        exact z_iret E hr dX12_undo_267
      · have hf := kB_f hf c43
        refine z_aload_n (pc := 245) (k0 := 0) E dX12_undo_245 rfl rfl ?_
        refine gM_49 (pc := 246) (i := 0) E rfl wd_5_20 dX12_undo_246 ?_
        refine z_iload_n (pc := 249) (k0 := 1) E dX12_undo_249 rfl rfl ?_
        refine z_aload_n (pc := 250) (k0 := 0) E dX12_undo_250 rfl rfl ?_
        refine gM_68 (pc := 251) (i := 0) E rfl wd_6_15 dX12_undo_251 ?_
        refine z_iload_n (pc := 254) (k0 := 1) E dX12_undo_254 rfl rfl ?_
        obtain ⟨c44, hf⟩ := kO_e hf
        refine lM_68 (pc := 255) (i := 0) E rfl c44 dX12_undo_255 ?_
        obtain ⟨c45, hf⟩ := kO_e hf
        obtain ⟨SM_46, e_SM_46, hf⟩ := kL_e hf
        refine sM_49 (pc := 256) (i := 0) (S1 := SM_46) E rfl c45 e_SM_46 dX12_undo_256 ?_
        show zJ p l e rm_X12_undo s m args below meth c (zQ G ct (some (.int r0)) [wM aM ct OM] A below args s 0 0) A G 2 0 0 [wM aM ct SM_46] [(0, .ref (aM 200)), (1, .int x1)] 257 []
        obtain ⟨v47, e_v47, hf⟩ := kL_e hf
        refine z_iinc (pc := 257) (k0 := 1) (v := v47) (lv' := [(1, .int v47), (0, .ref (aM 200))]) E dX12_undo_257 rfl e_v47 (by decide) rfl ?_
        refine z_goto (pc := 260) (tgt := 239) E dX12_undo_260 (by decide) ?_
        refine z_sub [1, 0] (lv' := [(0, .ref (aM 200)), (1, .int v47)]) rfl ?_
        exact ih239 SM_46 v47 hf
  have L213 : ∀ (n213 : Nat) (SM : zMS) (x1 : Int32), f_X12_undo_l213 N n213 SM x1 = some (r0, OM) → zJ p l e rm_X12_undo s m args below meth c (zQ G ct (some (.int r0)) [wM aM ct OM] A below args s 0 0) A G 2 0 0 [wM aM ct SM] [(0, .ref (aM 200)), (1, .int x1)] 213 [] := by
    intro n213
    induction n213 with
    | zero =>
      intro SM x1 hf
      rw [f_X12_undo_l213_z] at hf
      cases hf
    | succ n213 ih213 =>
      intro SM x1 hf
      rw [f_X12_undo_l213_s] at hf
      refine z_iload_n (pc := 213) (k0 := 1) E dX12_undo_213 rfl rfl ?_
      refine z_bipush (pc := 214) (v := 8) E dX12_undo_214 (by decide) ?_
      refine z_icmp_ge (pc := 216) (tgt := 237) E dX12_undo_216 (by decide) (fun c37 => ?_) (fun c37 => ?_)
      · have hf := kB_t hf c37
        refine z_iconst (pc := 237) (v := 0) E dX12_undo_237 (by decide) ?_
        refine z_istore_n (pc := 238) (lv' := [(1, .int 0), (0, .ref (aM 200))]) E dX12_undo_238 rfl (by decide) rfl ?_
        refine z_sub [1, 0] (lv' := [(0, .ref (aM 200)), (1, .int 0)]) rfl ?_
        exact L239 N SM 0 hf
      · have hf := kB_f hf c37
        refine z_aload_n (pc := 219) (k0 := 0) E dX12_undo_219 rfl rfl ?_
        refine gM_47 (pc := 220) (i := 0) E rfl wd_5_18 dX12_undo_220 ?_
        refine z_iload_n (pc := 223) (k0 := 1) E dX12_undo_223 rfl rfl ?_
        refine z_aload_n (pc := 224) (k0 := 0) E dX12_undo_224 rfl rfl ?_
        refine gM_69 (pc := 225) (i := 0) E rfl wd_6_16 dX12_undo_225 ?_
        refine z_iload_n (pc := 228) (k0 := 1) E dX12_undo_228 rfl rfl ?_
        obtain ⟨c38, hf⟩ := kO_e hf
        refine lM_69 (pc := 229) (i := 0) E rfl c38 dX12_undo_229 ?_
        obtain ⟨c39, hf⟩ := kO_e hf
        obtain ⟨c40, hf⟩ := kO_e hf
        obtain ⟨SM_41, e_SM_41, hf⟩ := kL_e hf
        refine sM_47 (pc := 230) (i := 0) (S1 := SM_41) E rfl c39 c40 e_SM_41 dX12_undo_230 ?_
        show zJ p l e rm_X12_undo s m args below meth c (zQ G ct (some (.int r0)) [wM aM ct OM] A below args s 0 0) A G 2 0 0 [wM aM ct SM_41] [(0, .ref (aM 200)), (1, .int x1)] 231 []
        obtain ⟨v42, e_v42, hf⟩ := kL_e hf
        refine z_iinc (pc := 231) (k0 := 1) (v := v42) (lv' := [(1, .int v42), (0, .ref (aM 200))]) E dX12_undo_231 rfl e_v42 (by decide) rfl ?_
        refine z_goto (pc := 234) (tgt := 213) E dX12_undo_234 (by decide) ?_
        refine z_sub [1, 0] (lv' := [(0, .ref (aM 200)), (1, .int v42)]) rfl ?_
        exact ih213 SM_41 v42 hf
  have L187 : ∀ (n187 : Nat) (SM : zMS) (x1 : Int32), f_X12_undo_l187 N n187 SM x1 = some (r0, OM) → zJ p l e rm_X12_undo s m args below meth c (zQ G ct (some (.int r0)) [wM aM ct OM] A below args s 0 0) A G 2 0 0 [wM aM ct SM] [(0, .ref (aM 200)), (1, .int x1)] 187 [] := by
    intro n187
    induction n187 with
    | zero =>
      intro SM x1 hf
      rw [f_X12_undo_l187_z] at hf
      cases hf
    | succ n187 ih187 =>
      intro SM x1 hf
      rw [f_X12_undo_l187_s] at hf
      refine z_iload_n (pc := 187) (k0 := 1) E dX12_undo_187 rfl rfl ?_
      refine z_bipush (pc := 188) (v := 16) E dX12_undo_188 (by decide) ?_
      refine z_icmp_ge (pc := 190) (tgt := 211) E dX12_undo_190 (by decide) (fun c32 => ?_) (fun c32 => ?_)
      · have hf := kB_t hf c32
        refine z_iconst (pc := 211) (v := 0) E dX12_undo_211 (by decide) ?_
        refine z_istore_n (pc := 212) (lv' := [(1, .int 0), (0, .ref (aM 200))]) E dX12_undo_212 rfl (by decide) rfl ?_
        refine z_sub [1, 0] (lv' := [(0, .ref (aM 200)), (1, .int 0)]) rfl ?_
        exact L213 N SM 0 hf
      · have hf := kB_f hf c32
        refine z_aload_n (pc := 193) (k0 := 0) E dX12_undo_193 rfl rfl ?_
        refine gM_13 (pc := 194) (i := 0) E rfl wd_4_8 dX12_undo_194 ?_
        refine z_iload_n (pc := 197) (k0 := 1) E dX12_undo_197 rfl rfl ?_
        refine z_aload_n (pc := 198) (k0 := 0) E dX12_undo_198 rfl rfl ?_
        refine gM_67 (pc := 199) (i := 0) E rfl wd_6_14 dX12_undo_199 ?_
        refine z_iload_n (pc := 202) (k0 := 1) E dX12_undo_202 rfl rfl ?_
        obtain ⟨c33, hf⟩ := kO_e hf
        refine lM_67 (pc := 203) (i := 0) E rfl c33 dX12_undo_203 ?_
        obtain ⟨c34, hf⟩ := kO_e hf
        obtain ⟨SM_35, e_SM_35, hf⟩ := kL_e hf
        refine sM_13 (pc := 204) (i := 0) (S1 := SM_35) E rfl c34 e_SM_35 dX12_undo_204 ?_
        show zJ p l e rm_X12_undo s m args below meth c (zQ G ct (some (.int r0)) [wM aM ct OM] A below args s 0 0) A G 2 0 0 [wM aM ct SM_35] [(0, .ref (aM 200)), (1, .int x1)] 205 []
        obtain ⟨v36, e_v36, hf⟩ := kL_e hf
        refine z_iinc (pc := 205) (k0 := 1) (v := v36) (lv' := [(1, .int v36), (0, .ref (aM 200))]) E dX12_undo_205 rfl e_v36 (by decide) rfl ?_
        refine z_goto (pc := 208) (tgt := 187) E dX12_undo_208 (by decide) ?_
        refine z_sub [1, 0] (lv' := [(0, .ref (aM 200)), (1, .int v36)]) rfl ?_
        exact ih187 SM_35 v36 hf
  have L150 : ∀ (n150 : Nat) (SM : zMS) (x1 : Int32), f_X12_undo_l150 N n150 SM x1 = some (r0, OM) → zJ p l e rm_X12_undo s m args below meth c (zQ G ct (some (.int r0)) [wM aM ct OM] A below args s 0 0) A G 2 0 0 [wM aM ct SM] [(0, .ref (aM 200)), (1, .int x1)] 150 [] := by
    intro n150
    induction n150 with
    | zero =>
      intro SM x1 hf
      rw [f_X12_undo_l150_z] at hf
      cases hf
    | succ n150 ih150 =>
      intro SM x1 hf
      rw [f_X12_undo_l150_s] at hf
      refine z_iload_n (pc := 150) (k0 := 1) E dX12_undo_150 rfl rfl ?_
      refine z_iconst (pc := 151) (v := 4) E dX12_undo_151 (by decide) ?_
      refine z_icmp_ge (pc := 152) (tgt := 185) E dX12_undo_152 (by decide) (fun c24 => ?_) (fun c24 => ?_)
      · have hf := kB_t hf c24
        refine z_iconst (pc := 185) (v := 0) E dX12_undo_185 (by decide) ?_
        refine z_istore_n (pc := 186) (lv' := [(1, .int 0), (0, .ref (aM 200))]) E dX12_undo_186 rfl (by decide) rfl ?_
        refine z_sub [1, 0] (lv' := [(0, .ref (aM 200)), (1, .int 0)]) rfl ?_
        exact L187 N SM 0 hf
      · have hf := kB_f hf c24
        refine z_aload_n (pc := 155) (k0 := 0) E dX12_undo_155 rfl rfl ?_
        refine gM_11 (pc := 156) (i := 0) E rfl wd_4_6 dX12_undo_156 ?_
        refine z_iload_n (pc := 159) (k0 := 1) E dX12_undo_159 rfl rfl ?_
        refine z_aload_n (pc := 160) (k0 := 0) E dX12_undo_160 rfl rfl ?_
        refine gM_65 (pc := 161) (i := 0) E rfl wd_6_12 dX12_undo_161 ?_
        refine z_iload_n (pc := 164) (k0 := 1) E dX12_undo_164 rfl rfl ?_
        obtain ⟨c25, hf⟩ := kO_e hf
        refine lM_65 (pc := 165) (i := 0) E rfl c25 dX12_undo_165 ?_
        obtain ⟨c26, hf⟩ := kO_e hf
        obtain ⟨SM_27, e_SM_27, hf⟩ := kL_e hf
        refine sM_11 (pc := 166) (i := 0) (S1 := SM_27) E rfl c26 e_SM_27 dX12_undo_166 ?_
        show zJ p l e rm_X12_undo s m args below meth c (zQ G ct (some (.int r0)) [wM aM ct OM] A below args s 0 0) A G 2 0 0 [wM aM ct SM_27] [(0, .ref (aM 200)), (1, .int x1)] 167 []
        refine z_aload_n (pc := 167) (k0 := 0) E dX12_undo_167 rfl rfl ?_
        refine gM_12 (pc := 168) (i := 0) E rfl wd_4_7 dX12_undo_168 ?_
        refine z_iload_n (pc := 171) (k0 := 1) E dX12_undo_171 rfl rfl ?_
        refine z_aload_n (pc := 172) (k0 := 0) E dX12_undo_172 rfl rfl ?_
        refine gM_66 (pc := 173) (i := 0) E rfl wd_6_13 dX12_undo_173 ?_
        refine z_iload_n (pc := 176) (k0 := 1) E dX12_undo_176 rfl rfl ?_
        obtain ⟨c28, hf⟩ := kO_e hf
        refine lM_66 (pc := 177) (i := 0) E rfl c28 dX12_undo_177 ?_
        obtain ⟨c29, hf⟩ := kO_e hf
        obtain ⟨SM_30, e_SM_30, hf⟩ := kL_e hf
        refine sM_12 (pc := 178) (i := 0) (S1 := SM_30) E rfl c29 e_SM_30 dX12_undo_178 ?_
        show zJ p l e rm_X12_undo s m args below meth c (zQ G ct (some (.int r0)) [wM aM ct OM] A below args s 0 0) A G 2 0 0 [wM aM ct SM_30] [(0, .ref (aM 200)), (1, .int x1)] 179 []
        obtain ⟨v31, e_v31, hf⟩ := kL_e hf
        refine z_iinc (pc := 179) (k0 := 1) (v := v31) (lv' := [(1, .int v31), (0, .ref (aM 200))]) E dX12_undo_179 rfl e_v31 (by decide) rfl ?_
        refine z_goto (pc := 182) (tgt := 150) E dX12_undo_182 (by decide) ?_
        refine z_sub [1, 0] (lv' := [(0, .ref (aM 200)), (1, .int v31)]) rfl ?_
        exact ih150 SM_30 v31 hf
  have L100 : ∀ (n100 : Nat) (SM : zMS) (x1 : Int32), f_X12_undo_l100 N n100 SM x1 = some (r0, OM) → zJ p l e rm_X12_undo s m args below meth c (zQ G ct (some (.int r0)) [wM aM ct OM] A below args s 0 0) A G 2 0 0 [wM aM ct SM] [(0, .ref (aM 200)), (1, .int x1)] 100 [] := by
    intro n100
    induction n100 with
    | zero =>
      intro SM x1 hf
      rw [f_X12_undo_l100_z] at hf
      cases hf
    | succ n100 ih100 =>
      intro SM x1 hf
      rw [f_X12_undo_l100_s] at hf
      refine z_iload_n (pc := 100) (k0 := 1) E dX12_undo_100 rfl rfl ?_
      refine z_bipush (pc := 101) (v := 7) E dX12_undo_101 (by decide) ?_
      refine z_icmp_ge (pc := 103) (tgt := 148) E dX12_undo_103 (by decide) (fun c13 => ?_) (fun c13 => ?_)
      · have hf := kB_t hf c13
        refine z_iconst (pc := 148) (v := 0) E dX12_undo_148 (by decide) ?_
        refine z_istore_n (pc := 149) (lv' := [(1, .int 0), (0, .ref (aM 200))]) E dX12_undo_149 rfl (by decide) rfl ?_
        refine z_sub [1, 0] (lv' := [(0, .ref (aM 200)), (1, .int 0)]) rfl ?_
        exact L150 N SM 0 hf
      · have hf := kB_f hf c13
        refine z_aload_n (pc := 106) (k0 := 0) E dX12_undo_106 rfl rfl ?_
        refine gM_8 (pc := 107) (i := 0) E rfl wd_4_3 dX12_undo_107 ?_
        refine z_iload_n (pc := 110) (k0 := 1) E dX12_undo_110 rfl rfl ?_
        refine z_aload_n (pc := 111) (k0 := 0) E dX12_undo_111 rfl rfl ?_
        refine gM_62 (pc := 112) (i := 0) E rfl wd_6_9 dX12_undo_112 ?_
        refine z_iload_n (pc := 115) (k0 := 1) E dX12_undo_115 rfl rfl ?_
        obtain ⟨c14, hf⟩ := kO_e hf
        refine lM_62 (pc := 116) (i := 0) E rfl c14 dX12_undo_116 ?_
        obtain ⟨c15, hf⟩ := kO_e hf
        obtain ⟨SM_16, e_SM_16, hf⟩ := kL_e hf
        refine sM_8 (pc := 117) (i := 0) (S1 := SM_16) E rfl c15 e_SM_16 dX12_undo_117 ?_
        show zJ p l e rm_X12_undo s m args below meth c (zQ G ct (some (.int r0)) [wM aM ct OM] A below args s 0 0) A G 2 0 0 [wM aM ct SM_16] [(0, .ref (aM 200)), (1, .int x1)] 118 []
        refine z_aload_n (pc := 118) (k0 := 0) E dX12_undo_118 rfl rfl ?_
        refine gM_9 (pc := 119) (i := 0) E rfl wd_4_4 dX12_undo_119 ?_
        refine z_iload_n (pc := 122) (k0 := 1) E dX12_undo_122 rfl rfl ?_
        refine z_aload_n (pc := 123) (k0 := 0) E dX12_undo_123 rfl rfl ?_
        refine gM_63 (pc := 124) (i := 0) E rfl wd_6_10 dX12_undo_124 ?_
        refine z_iload_n (pc := 127) (k0 := 1) E dX12_undo_127 rfl rfl ?_
        obtain ⟨c17, hf⟩ := kO_e hf
        refine lM_63 (pc := 128) (i := 0) E rfl c17 dX12_undo_128 ?_
        obtain ⟨c18, hf⟩ := kO_e hf
        obtain ⟨SM_19, e_SM_19, hf⟩ := kL_e hf
        refine sM_9 (pc := 129) (i := 0) (S1 := SM_19) E rfl c18 e_SM_19 dX12_undo_129 ?_
        show zJ p l e rm_X12_undo s m args below meth c (zQ G ct (some (.int r0)) [wM aM ct OM] A below args s 0 0) A G 2 0 0 [wM aM ct SM_19] [(0, .ref (aM 200)), (1, .int x1)] 130 []
        refine z_aload_n (pc := 130) (k0 := 0) E dX12_undo_130 rfl rfl ?_
        refine gM_10 (pc := 131) (i := 0) E rfl wd_4_5 dX12_undo_131 ?_
        refine z_iload_n (pc := 134) (k0 := 1) E dX12_undo_134 rfl rfl ?_
        refine z_aload_n (pc := 135) (k0 := 0) E dX12_undo_135 rfl rfl ?_
        refine gM_64 (pc := 136) (i := 0) E rfl wd_6_11 dX12_undo_136 ?_
        refine z_iload_n (pc := 139) (k0 := 1) E dX12_undo_139 rfl rfl ?_
        obtain ⟨c20, hf⟩ := kO_e hf
        refine lM_64 (pc := 140) (i := 0) E rfl c20 dX12_undo_140 ?_
        obtain ⟨c21, hf⟩ := kO_e hf
        obtain ⟨SM_22, e_SM_22, hf⟩ := kL_e hf
        refine sM_10 (pc := 141) (i := 0) (S1 := SM_22) E rfl c21 e_SM_22 dX12_undo_141 ?_
        show zJ p l e rm_X12_undo s m args below meth c (zQ G ct (some (.int r0)) [wM aM ct OM] A below args s 0 0) A G 2 0 0 [wM aM ct SM_22] [(0, .ref (aM 200)), (1, .int x1)] 142 []
        obtain ⟨v23, e_v23, hf⟩ := kL_e hf
        refine z_iinc (pc := 142) (k0 := 1) (v := v23) (lv' := [(1, .int v23), (0, .ref (aM 200))]) E dX12_undo_142 rfl e_v23 (by decide) rfl ?_
        refine z_goto (pc := 145) (tgt := 100) E dX12_undo_145 (by decide) ?_
        refine z_sub [1, 0] (lv' := [(0, .ref (aM 200)), (1, .int v23)]) rfl ?_
        exact ih100 SM_22 v23 hf
  unfold f_X12_undo at hf
  refine z_aload_n (pc := 0) (k0 := 0) E dX12_undo_0 rfl rfl ?_
  refine gM_50 (pc := 1) (i := 0) E rfl wd_5_21 dX12_undo_1 ?_
  refine z_if_ne (pc := 4) (tgt := 10) E dX12_undo_4 (by decide) (fun c1 => ?_) (fun c1 => ?_)
  · have hf := kB_f hf c1
    refine z_aload_n (pc := 10) (k0 := 0) E dX12_undo_10 rfl rfl ?_
    refine z_aload_n (pc := 11) (k0 := 0) E dX12_undo_11 rfl rfl ?_
    refine gM_51 (pc := 12) (i := 0) E rfl wd_5_22 dX12_undo_12 ?_
    obtain ⟨SM_2, e_SM_2, hf⟩ := kL_e hf
    refine pM_15 (pc := 15) (i := 0) (S1 := SM_2) E rfl e_SM_2 wd_4_10 dX12_undo_15 ?_
    show zJ p l e rm_X12_undo s m args below meth c (zQ G ct (some (.int r0)) [wM aM ct OM] A below args s 0 0) A G 2 0 0 [wM aM ct SM_2] [(0, .ref (aM 200))] 18 []
    refine z_aload_n (pc := 18) (k0 := 0) E dX12_undo_18 rfl rfl ?_
    refine z_aload_n (pc := 19) (k0 := 0) E dX12_undo_19 rfl rfl ?_
    refine gM_52 (pc := 20) (i := 0) E rfl wd_5_23 dX12_undo_20 ?_
    obtain ⟨SM_3, e_SM_3, hf⟩ := kL_e hf
    refine pM_0 (pc := 23) (i := 0) (S1 := SM_3) E rfl e_SM_3 wd_3_19 dX12_undo_23 ?_
    show zJ p l e rm_X12_undo s m args below meth c (zQ G ct (some (.int r0)) [wM aM ct OM] A below args s 0 0) A G 2 0 0 [wM aM ct SM_3] [(0, .ref (aM 200))] 26 []
    refine z_aload_n (pc := 26) (k0 := 0) E dX12_undo_26 rfl rfl ?_
    refine z_aload_n (pc := 27) (k0 := 0) E dX12_undo_27 rfl rfl ?_
    refine gM_53 (pc := 28) (i := 0) E rfl wd_6_0 dX12_undo_28 ?_
    obtain ⟨SM_4, e_SM_4, hf⟩ := kL_e hf
    refine pM_1 (pc := 31) (i := 0) (S1 := SM_4) E rfl e_SM_4 wd_3_20 dX12_undo_31 ?_
    show zJ p l e rm_X12_undo s m args below meth c (zQ G ct (some (.int r0)) [wM aM ct OM] A below args s 0 0) A G 2 0 0 [wM aM ct SM_4] [(0, .ref (aM 200))] 34 []
    refine z_aload_n (pc := 34) (k0 := 0) E dX12_undo_34 rfl rfl ?_
    refine z_aload_n (pc := 35) (k0 := 0) E dX12_undo_35 rfl rfl ?_
    refine gM_54 (pc := 36) (i := 0) E rfl wd_6_1 dX12_undo_36 ?_
    obtain ⟨SM_5, e_SM_5, hf⟩ := kL_e hf
    refine pM_2 (pc := 39) (i := 0) (S1 := SM_5) E rfl e_SM_5 wd_3_21 dX12_undo_39 ?_
    show zJ p l e rm_X12_undo s m args below meth c (zQ G ct (some (.int r0)) [wM aM ct OM] A below args s 0 0) A G 2 0 0 [wM aM ct SM_5] [(0, .ref (aM 200))] 42 []
    refine z_aload_n (pc := 42) (k0 := 0) E dX12_undo_42 rfl rfl ?_
    refine z_aload_n (pc := 43) (k0 := 0) E dX12_undo_43 rfl rfl ?_
    refine gM_55 (pc := 44) (i := 0) E rfl wd_6_2 dX12_undo_44 ?_
    obtain ⟨SM_6, e_SM_6, hf⟩ := kL_e hf
    refine pM_3 (pc := 47) (i := 0) (S1 := SM_6) E rfl e_SM_6 wd_3_22 dX12_undo_47 ?_
    show zJ p l e rm_X12_undo s m args below meth c (zQ G ct (some (.int r0)) [wM aM ct OM] A below args s 0 0) A G 2 0 0 [wM aM ct SM_6] [(0, .ref (aM 200))] 50 []
    refine z_aload_n (pc := 50) (k0 := 0) E dX12_undo_50 rfl rfl ?_
    refine z_aload_n (pc := 51) (k0 := 0) E dX12_undo_51 rfl rfl ?_
    refine gM_56 (pc := 52) (i := 0) E rfl wd_6_3 dX12_undo_52 ?_
    obtain ⟨SM_7, e_SM_7, hf⟩ := kL_e hf
    refine pM_4 (pc := 55) (i := 0) (S1 := SM_7) E rfl e_SM_7 wd_3_23 dX12_undo_55 ?_
    show zJ p l e rm_X12_undo s m args below meth c (zQ G ct (some (.int r0)) [wM aM ct OM] A below args s 0 0) A G 2 0 0 [wM aM ct SM_7] [(0, .ref (aM 200))] 58 []
    refine z_aload_n (pc := 58) (k0 := 0) E dX12_undo_58 rfl rfl ?_
    refine z_aload_n (pc := 59) (k0 := 0) E dX12_undo_59 rfl rfl ?_
    refine gM_57 (pc := 60) (i := 0) E rfl wd_6_4 dX12_undo_60 ?_
    obtain ⟨SM_8, e_SM_8, hf⟩ := kL_e hf
    refine pM_5 (pc := 63) (i := 0) (S1 := SM_8) E rfl e_SM_8 wd_4_0 dX12_undo_63 ?_
    show zJ p l e rm_X12_undo s m args below meth c (zQ G ct (some (.int r0)) [wM aM ct OM] A below args s 0 0) A G 2 0 0 [wM aM ct SM_8] [(0, .ref (aM 200))] 66 []
    refine z_aload_n (pc := 66) (k0 := 0) E dX12_undo_66 rfl rfl ?_
    refine z_aload_n (pc := 67) (k0 := 0) E dX12_undo_67 rfl rfl ?_
    refine gM_58 (pc := 68) (i := 0) E rfl wd_6_5 dX12_undo_68 ?_
    obtain ⟨SM_9, e_SM_9, hf⟩ := kL_e hf
    refine pM_6 (pc := 71) (i := 0) (S1 := SM_9) E rfl e_SM_9 wd_4_1 dX12_undo_71 ?_
    show zJ p l e rm_X12_undo s m args below meth c (zQ G ct (some (.int r0)) [wM aM ct OM] A below args s 0 0) A G 2 0 0 [wM aM ct SM_9] [(0, .ref (aM 200))] 74 []
    refine z_aload_n (pc := 74) (k0 := 0) E dX12_undo_74 rfl rfl ?_
    refine z_aload_n (pc := 75) (k0 := 0) E dX12_undo_75 rfl rfl ?_
    refine gM_59 (pc := 76) (i := 0) E rfl wd_6_6 dX12_undo_76 ?_
    obtain ⟨SM_10, e_SM_10, hf⟩ := kL_e hf
    refine pM_7 (pc := 79) (i := 0) (S1 := SM_10) E rfl e_SM_10 wd_4_2 dX12_undo_79 ?_
    show zJ p l e rm_X12_undo s m args below meth c (zQ G ct (some (.int r0)) [wM aM ct OM] A below args s 0 0) A G 2 0 0 [wM aM ct SM_10] [(0, .ref (aM 200))] 82 []
    refine z_aload_n (pc := 82) (k0 := 0) E dX12_undo_82 rfl rfl ?_
    refine z_aload_n (pc := 83) (k0 := 0) E dX12_undo_83 rfl rfl ?_
    refine gM_60 (pc := 84) (i := 0) E rfl wd_6_7 dX12_undo_84 ?_
    obtain ⟨SM_11, e_SM_11, hf⟩ := kL_e hf
    refine pM_46 (pc := 87) (i := 0) (S1 := SM_11) E rfl e_SM_11 wd_5_17 dX12_undo_87 ?_
    show zJ p l e rm_X12_undo s m args below meth c (zQ G ct (some (.int r0)) [wM aM ct OM] A below args s 0 0) A G 2 0 0 [wM aM ct SM_11] [(0, .ref (aM 200))] 90 []
    refine z_aload_n (pc := 90) (k0 := 0) E dX12_undo_90 rfl rfl ?_
    refine z_aload_n (pc := 91) (k0 := 0) E dX12_undo_91 rfl rfl ?_
    refine gM_61 (pc := 92) (i := 0) E rfl wd_6_8 dX12_undo_92 ?_
    obtain ⟨SM_12, e_SM_12, hf⟩ := kL_e hf
    refine pM_48 (pc := 95) (i := 0) (S1 := SM_12) E rfl e_SM_12 wd_5_19 dX12_undo_95 ?_
    show zJ p l e rm_X12_undo s m args below meth c (zQ G ct (some (.int r0)) [wM aM ct OM] A below args s 0 0) A G 2 0 0 [wM aM ct SM_12] [(0, .ref (aM 200))] 98 []
    refine z_iconst (pc := 98) (v := 0) E dX12_undo_98 (by decide) ?_
    refine z_istore_n (pc := 99) (lv' := [(1, .int 0), (0, .ref (aM 200))]) E dX12_undo_99 rfl (by decide) rfl ?_
    refine z_sub [1, 0] (lv' := [(0, .ref (aM 200)), (1, .int 0)]) rfl ?_
    exact L100 N SM_12 0 hf
  · have hf := kB_t hf c1
    refine z_bipush (pc := 7) (v := (-3)) E dX12_undo_7 (by decide) ?_
    cases hf
    exact z_iret E hr dX12_undo_9
noncomputable def f_X12_body_b19 (SM : zMS) : Option zMS := kL ((SM.1 70) + 1) (fun v4 => kL (mSI SM 70 v4) (fun SM_5 => some (SM_5)))
noncomputable def f_X12_body (SM : zMS) (a1 : Int32) : Option zMS := kB (20 ≤ (SM.1 70)) (f_X12_body_b19  SM) (kO (¬ ((SM.1 70) < 0 ∨ 20 ≤ Int32.toNatClampNeg (SM.1 70))) (kL (mSA SM 71 (upd (SM.2.1 71) (Int32.toNatClampNeg (SM.1 70)) a1)) (fun SM_3 => f_X12_body_b19  SM_3)))
theorem wv_X12_body : zWV RX12 yX12_body cX12_body 2 none 1 := ⟨wd_49_4, wd_49_5, wd_1_5, wd_49_6, by decide +kernel⟩
def rm_X12_body : Room := { frames := 0, cells := 0, slots := 0, locals := 0 }
set_option maxHeartbeats 4000000 in
set_option maxRecDepth 100000 in
theorem c_X12_body {l : Launch} {G : va_G} {ct : Nat → ClassId} {aM : Nat → Nat} {SM : zMS} {a1 : Int32} {OM : zMS} (hf : f_X12_body SM a1 = some OM) : zC l yX12_body cX12_body 2 none rm_X12_body G ct [.ref (aM 200), .int a1] [wM aM ct SM] [wM aM ct OM] none 0 0 := by
  refine z_enter (own := RX12) (lv := [(0, .ref (aM 200)), (1, .int a1)]) (by decide) rfl (Nat.le_of_ble_eq_true rfl) rfl ?_
  intro p e s m args below meth c A E hr hnm
  have B19 : ∀ (SM : zMS), f_X12_body_b19  SM = some OM → zJ p l e rm_X12_body s m args below meth c (zQ G ct none [wM aM ct OM] A below args s 0 0) A G 2 0 0 [wM aM ct SM] [(0, .ref (aM 200))] 19 [] := by
    intro SM hf
    unfold f_X12_body_b19 at hf
    refine z_aload_n (pc := 19) (k0 := 0) E dX12_body_19 rfl rfl ?_
    refine z_dup (pc := 20) E dX12_body_20 rfl ?_
    refine gM_70 (pc := 21) (i := 0) E rfl wd_6_17 dX12_body_21 ?_
    refine z_iconst (pc := 24) (v := 1) E dX12_body_24 (by decide) ?_
    obtain ⟨v4, e_v4, hf⟩ := kL_e hf
    refine z_iadd (pc := 25) (v := v4) E dX12_body_25 e_v4 ?_
    obtain ⟨SM_5, e_SM_5, hf⟩ := kL_e hf
    refine pM_70 (pc := 26) (i := 0) (S1 := SM_5) E rfl e_SM_5 wd_6_17 dX12_body_26 ?_
    show zJ p l e rm_X12_body s m args below meth c (zQ G ct none [wM aM ct OM] A below args s 0 0) A G 2 0 0 [wM aM ct SM_5] [(0, .ref (aM 200))] 29 []
    cases hf
    exact z_vret E hr dX12_body_29
  unfold f_X12_body at hf
  refine z_aload_n (pc := 0) (k0 := 0) E dX12_body_0 rfl rfl ?_
  refine gM_70 (pc := 1) (i := 0) E rfl wd_6_17 dX12_body_1 ?_
  refine z_bipush (pc := 4) (v := 20) E dX12_body_4 (by decide) ?_
  refine z_icmp_ge (pc := 6) (tgt := 19) E dX12_body_6 (by decide) (fun c1 => ?_) (fun c1 => ?_)
  · have hf := kB_t hf c1
    refine z_sub [0] (lv' := [(0, .ref (aM 200))]) rfl ?_
    exact B19 SM hf
  · have hf := kB_f hf c1
    refine z_aload_n (pc := 9) (k0 := 0) E dX12_body_9 rfl rfl ?_
    refine gM_71 (pc := 10) (i := 0) E rfl wd_6_18 dX12_body_10 ?_
    refine z_aload_n (pc := 13) (k0 := 0) E dX12_body_13 rfl rfl ?_
    refine gM_70 (pc := 14) (i := 0) E rfl wd_6_17 dX12_body_14 ?_
    refine z_iload_n (pc := 17) (k0 := 1) E dX12_body_17 rfl rfl ?_
    obtain ⟨c2, hf⟩ := kO_e hf
    obtain ⟨SM_3, e_SM_3, hf⟩ := kL_e hf
    refine sM_71 (pc := 18) (i := 0) (S1 := SM_3) E rfl c2 e_SM_3 dX12_body_18 ?_
    show zJ p l e rm_X12_body s m args below meth c (zQ G ct none [wM aM ct OM] A below args s 0 0) A G 2 0 0 [wM aM ct SM_3] [(0, .ref (aM 200)), (1, .int a1)] 19 []
    refine z_sub [0] (lv' := [(0, .ref (aM 200))]) rfl ?_
    exact B19 SM_3 hf
noncomputable def f_X12_parentHears (SM : zMS) (a1 : Int32) (a2 : Int32) : Option (Int32 × zMS) := kC (f_X12_body SM 10) (fun SM_1 => kL (a2 + a1) (fun v3 => some (v3, SM_1)))
theorem wv_X12_parentHears : zWV RX12 yX12_parentHears cX12_parentHears 3 (some .int) 2 := ⟨wd_49_8, wd_49_9, wd_1_5, wd_49_10, by decide +kernel⟩
def rm_X12_parentHears : Room := { frames := 1, cells := 0, slots := 0, locals := 21 }
set_option maxHeartbeats 4000000 in
set_option maxRecDepth 100000 in
theorem c_X12_parentHears {l : Launch} {G : va_G} {ct : Nat → ClassId} {aM : Nat → Nat} {SM : zMS} {a1 : Int32} {a2 : Int32} {r0 : Int32} {OM : zMS} (hf : f_X12_parentHears SM a1 a2 = some (r0, OM)) : zC l yX12_parentHears cX12_parentHears 3 (some .int) rm_X12_parentHears G ct [.ref (aM 200), .int a1, .int a2] [wM aM ct SM] [wM aM ct OM] (some (.int r0)) 0 0 := by
  refine z_enter (own := RX12) (lv := [(0, .ref (aM 200)), (1, .int a1), (2, .int a2)]) (by decide) rfl (Nat.le_of_ble_eq_true rfl) rfl ?_
  intro p e s m args below meth c A E hr hnm
  unfold f_X12_parentHears at hf
  refine z_aload_n (pc := 0) (k0 := 0) E dX12_parentHears_0 rfl rfl ?_
  refine z_bipush (pc := 1) (v := 10) E dX12_parentHears_1 (by decide) ?_
  obtain ⟨SM_1, h2, hf⟩ := kC_e hf
  refine z_callV0 (pc := 3) (is := [0]) (n := 1) (As := [.int 10]) (st := []) (st' := []) (C2 := [wM aM ct SM_1]) E (c_X12_body (l := l) (G := G) (ct := ct) (aM := aM) h2) wv_X12_body wd_49_3 ⟨Nat.le_of_ble_eq_true rfl, Nat.le_of_ble_eq_true rfl, Nat.le_of_ble_eq_true rfl, Nat.le_of_ble_eq_true rfl⟩ rfl rfl rfl (by decide) rfl rfl (zrM (j := 0) rfl) rfl (Nat.le_of_ble_eq_true rfl) dX12_parentHears_3 rfl rfl ?_
  refine z_iload_n (pc := 6) (k0 := 2) E dX12_parentHears_6 rfl rfl ?_
  refine z_iload_n (pc := 7) (k0 := 1) E dX12_parentHears_7 rfl rfl ?_
  obtain ⟨v3, e_v3, hf⟩ := kL_e hf
  refine z_iadd (pc := 8) (v := v3) E dX12_parentHears_8 e_v3 ?_
  cases hf
  exact z_iret E hr dX12_parentHears_9
noncomputable def f_X12_hearsAct_b40 (SM : zMS) (x1 : Int32) (x2 : Int32) : Option (Int32 × zMS) := kC (f_X12_body SM 30) (fun SM_26 => kL (x2 * 3) (fun v28 => kD (f_X12_parentHears SM_26 x1 v28) (fun r29 SM_30 => some (r29, SM_30))))
noncomputable def f_X12_hearsAct (SM : zMS) (a1 : Int32) (a2 : Int32) : Option (Int32 × zMS) := kO (¬ (a1 < 0 ∨ 4 ≤ Int32.toNatClampNeg a1)) (kB ((SM.2.1 11 (Int32.toNatClampNeg a1)) = 2) (f_X12_hearsAct_b40  SM a1 a2) (kB ((SM.2.1 11 (Int32.toNatClampNeg a1)) = 3) (kD (f_X12_parentHears SM a1 a2) (fun r4 SM_5 => some (r4, SM_5))) (kB ((SM.2.1 11 (Int32.toNatClampNeg a1)) = 4) (kC (f_X12_body SM 50) (fun SM_8 => kD (f_X12_parentHears SM_8 a1 a2) (fun r10 SM_11 => kL (-r10) (fun v13 => some (v13, SM_11))))) (kB ((SM.2.1 11 (Int32.toNatClampNeg a1)) = 5) (f_X12_hearsAct_b40  SM a1 a2) (kB ((SM.2.1 11 (Int32.toNatClampNeg a1)) = 6) (kC (f_X12_body SM 71) (fun SM_16 => kD (f_X12_parentHears SM_16 a1 a2) (fun r18 SM_19 => kO (¬ (a1 < 0 ∨ 4 ≤ Int32.toNatClampNeg a1)) (kL (r18 ^^^ (SM_19.2.1 12 (Int32.toNatClampNeg a1))) (fun v22 => some (v22, SM_19)))))) (kD (f_X12_parentHears SM a1 a2) (fun r23 SM_24 => some (r23, SM_24))))))))
theorem wv_X12_hearsAct : zWV RX12 yX12_hearsAct cX12_hearsAct 3 (some .int) 2 := ⟨wd_49_0, wd_49_1, wd_1_5, wd_49_2, by decide +kernel⟩
def rm_X12_hearsAct : Room := { frames := 2, cells := 0, slots := 0, locals := 43 }
set_option maxHeartbeats 4000000 in
set_option maxRecDepth 100000 in
theorem c_X12_hearsAct {l : Launch} {G : va_G} {ct : Nat → ClassId} {aM : Nat → Nat} {SM : zMS} {a1 : Int32} {a2 : Int32} {r0 : Int32} {OM : zMS} (hf : f_X12_hearsAct SM a1 a2 = some (r0, OM)) : zC l yX12_hearsAct cX12_hearsAct 3 (some .int) rm_X12_hearsAct G ct [.ref (aM 200), .int a1, .int a2] [wM aM ct SM] [wM aM ct OM] (some (.int r0)) 0 0 := by
  refine z_enter (own := RX12) (lv := [(0, .ref (aM 200)), (1, .int a1), (2, .int a2)]) (by decide) rfl (Nat.le_of_ble_eq_true rfl) rfl ?_
  intro p e s m args below meth c A E hr hnm
  have B40 : ∀ (SM : zMS) (x1 : Int32) (x2 : Int32), f_X12_hearsAct_b40  SM x1 x2 = some (r0, OM) → zJ p l e rm_X12_hearsAct s m args below meth c (zQ G ct (some (.int r0)) [wM aM ct OM] A below args s 0 0) A G 3 0 0 [wM aM ct SM] [(0, .ref (aM 200)), (1, .int x1), (2, .int x2)] 40 [] := by
    intro SM x1 x2 hf
    unfold f_X12_hearsAct_b40 at hf
    refine z_aload_n (pc := 40) (k0 := 0) E dX12_hearsAct_40 rfl rfl ?_
    refine z_bipush (pc := 41) (v := 30) E dX12_hearsAct_41 (by decide) ?_
    obtain ⟨SM_26, h27, hf⟩ := kC_e hf
    refine z_callV0 (pc := 43) (is := [0]) (n := 1) (As := [.int 30]) (st := []) (st' := []) (C2 := [wM aM ct SM_26]) E (c_X12_body (l := l) (G := G) (ct := ct) (aM := aM) h27) wv_X12_body wd_49_3 ⟨Nat.le_of_ble_eq_true rfl, Nat.le_of_ble_eq_true rfl, Nat.le_of_ble_eq_true rfl, Nat.le_of_ble_eq_true rfl⟩ rfl rfl rfl (by decide) rfl rfl (zrM (j := 0) rfl) rfl (Nat.le_of_ble_eq_true rfl) dX12_hearsAct_43 rfl rfl ?_
    refine z_aload_n (pc := 46) (k0 := 0) E dX12_hearsAct_46 rfl rfl ?_
    refine z_iload_n (pc := 47) (k0 := 1) E dX12_hearsAct_47 rfl rfl ?_
    refine z_iload_n (pc := 48) (k0 := 2) E dX12_hearsAct_48 rfl rfl ?_
    refine z_iconst (pc := 49) (v := 3) E dX12_hearsAct_49 (by decide) ?_
    obtain ⟨v28, e_v28, hf⟩ := kL_e hf
    refine z_imul (pc := 50) (v := v28) E dX12_hearsAct_50 e_v28 ?_
    obtain ⟨r29, SM_30, h31, hf⟩ := kD_e hf
    refine z_callV0 (pc := 51) (is := [0]) (n := 2) (As := [.int x1, .int v28]) (st := []) (st' := [.int r29]) (C2 := [wM aM ct SM_30]) E (c_X12_parentHears (l := l) (G := G) (ct := ct) (aM := aM) h31) wv_X12_parentHears wd_49_7 ⟨Nat.le_of_ble_eq_true rfl, Nat.le_of_ble_eq_true rfl, Nat.le_of_ble_eq_true rfl, Nat.le_of_ble_eq_true rfl⟩ rfl rfl rfl (by decide) rfl rfl (zrM (j := 0) rfl) rfl (Nat.le_of_ble_eq_true rfl) dX12_hearsAct_51 rfl rfl ?_
    cases hf
    exact z_iret E hr dX12_hearsAct_54
  unfold f_X12_hearsAct at hf
  refine z_aload_n (pc := 0) (k0 := 0) E dX12_hearsAct_0 rfl rfl ?_
  refine gM_11 (pc := 1) (i := 0) E rfl wd_4_6 dX12_hearsAct_1 ?_
  refine z_iload_n (pc := 4) (k0 := 1) E dX12_hearsAct_4 rfl rfl ?_
  obtain ⟨c1, hf⟩ := kO_e hf
  refine lM_11 (pc := 5) (i := 0) E rfl c1 dX12_hearsAct_5 ?_
  by_cases c2 : (SM.2.1 11 (Int32.toNatClampNeg a1)) = 2
  · have hf := kB_t hf c2
    refine z_tswIn (pc := 6) (tgt := 40) (v := 2) (n := 2) (off := 34) E dX12_hearsAct_6 c2 (by decide) (by decide) (by decide) (by decide) (by decide) ?_
    exact B40 SM a1 a2 hf
  have hf := kB_f hf c2
  by_cases c3 : (SM.2.1 11 (Int32.toNatClampNeg a1)) = 3
  · have hf := kB_t hf c3
    refine z_tswIn (pc := 6) (tgt := 89) (v := 3) (n := 3) (off := 83) E dX12_hearsAct_6 c3 (by decide) (by decide) (by decide) (by decide) (by decide) ?_
    refine z_aload_n (pc := 89) (k0 := 0) E dX12_hearsAct_89 rfl rfl ?_
    refine z_iload_n (pc := 90) (k0 := 1) E dX12_hearsAct_90 rfl rfl ?_
    refine z_iload_n (pc := 91) (k0 := 2) E dX12_hearsAct_91 rfl rfl ?_
    obtain ⟨r4, SM_5, h6, hf⟩ := kD_e hf
    refine z_callV0 (pc := 92) (is := [0]) (n := 2) (As := [.int a1, .int a2]) (st := []) (st' := [.int r4]) (C2 := [wM aM ct SM_5]) E (c_X12_parentHears (l := l) (G := G) (ct := ct) (aM := aM) h6) wv_X12_parentHears wd_49_7 ⟨Nat.le_of_ble_eq_true rfl, Nat.le_of_ble_eq_true rfl, Nat.le_of_ble_eq_true rfl, Nat.le_of_ble_eq_true rfl⟩ rfl rfl rfl (by decide) rfl rfl (zrM (j := 0) rfl) rfl (Nat.le_of_ble_eq_true rfl) dX12_hearsAct_92 rfl rfl ?_
    cases hf
    exact z_iret E hr dX12_hearsAct_95
  have hf := kB_f hf c3
  by_cases c7 : (SM.2.1 11 (Int32.toNatClampNeg a1)) = 4
  · have hf := kB_t hf c7
    refine z_tswIn (pc := 6) (tgt := 55) (v := 4) (n := 4) (off := 49) E dX12_hearsAct_6 c7 (by decide) (by decide) (by decide) (by decide) (by decide) ?_
    refine z_aload_n (pc := 55) (k0 := 0) E dX12_hearsAct_55 rfl rfl ?_
    refine z_bipush (pc := 56) (v := 50) E dX12_hearsAct_56 (by decide) ?_
    obtain ⟨SM_8, h9, hf⟩ := kC_e hf
    refine z_callV0 (pc := 58) (is := [0]) (n := 1) (As := [.int 50]) (st := []) (st' := []) (C2 := [wM aM ct SM_8]) E (c_X12_body (l := l) (G := G) (ct := ct) (aM := aM) h9) wv_X12_body wd_49_3 ⟨Nat.le_of_ble_eq_true rfl, Nat.le_of_ble_eq_true rfl, Nat.le_of_ble_eq_true rfl, Nat.le_of_ble_eq_true rfl⟩ rfl rfl rfl (by decide) rfl rfl (zrM (j := 0) rfl) rfl (Nat.le_of_ble_eq_true rfl) dX12_hearsAct_58 rfl rfl ?_
    refine z_aload_n (pc := 61) (k0 := 0) E dX12_hearsAct_61 rfl rfl ?_
    refine z_iload_n (pc := 62) (k0 := 1) E dX12_hearsAct_62 rfl rfl ?_
    refine z_iload_n (pc := 63) (k0 := 2) E dX12_hearsAct_63 rfl rfl ?_
    obtain ⟨r10, SM_11, h12, hf⟩ := kD_e hf
    refine z_callV0 (pc := 64) (is := [0]) (n := 2) (As := [.int a1, .int a2]) (st := []) (st' := [.int r10]) (C2 := [wM aM ct SM_11]) E (c_X12_parentHears (l := l) (G := G) (ct := ct) (aM := aM) h12) wv_X12_parentHears wd_49_7 ⟨Nat.le_of_ble_eq_true rfl, Nat.le_of_ble_eq_true rfl, Nat.le_of_ble_eq_true rfl, Nat.le_of_ble_eq_true rfl⟩ rfl rfl rfl (by decide) rfl rfl (zrM (j := 0) rfl) rfl (Nat.le_of_ble_eq_true rfl) dX12_hearsAct_64 rfl rfl ?_
    obtain ⟨v13, e_v13, hf⟩ := kL_e hf
    refine z_ineg (pc := 67) (v := v13) E dX12_hearsAct_67 e_v13 ?_
    cases hf
    exact z_iret E hr dX12_hearsAct_68
  have hf := kB_f hf c7
  by_cases c14 : (SM.2.1 11 (Int32.toNatClampNeg a1)) = 5
  · have hf := kB_t hf c14
    refine z_tswIn (pc := 6) (tgt := 40) (v := 5) (n := 5) (off := 34) E dX12_hearsAct_6 c14 (by decide) (by decide) (by decide) (by decide) (by decide) ?_
    exact B40 SM a1 a2 hf
  have hf := kB_f hf c14
  by_cases c15 : (SM.2.1 11 (Int32.toNatClampNeg a1)) = 6
  · have hf := kB_t hf c15
    refine z_tswIn (pc := 6) (tgt := 69) (v := 6) (n := 6) (off := 63) E dX12_hearsAct_6 c15 (by decide) (by decide) (by decide) (by decide) (by decide) ?_
    refine z_aload_n (pc := 69) (k0 := 0) E dX12_hearsAct_69 rfl rfl ?_
    refine z_bipush (pc := 70) (v := 71) E dX12_hearsAct_70 (by decide) ?_
    obtain ⟨SM_16, h17, hf⟩ := kC_e hf
    refine z_callV0 (pc := 72) (is := [0]) (n := 1) (As := [.int 71]) (st := []) (st' := []) (C2 := [wM aM ct SM_16]) E (c_X12_body (l := l) (G := G) (ct := ct) (aM := aM) h17) wv_X12_body wd_49_3 ⟨Nat.le_of_ble_eq_true rfl, Nat.le_of_ble_eq_true rfl, Nat.le_of_ble_eq_true rfl, Nat.le_of_ble_eq_true rfl⟩ rfl rfl rfl (by decide) rfl rfl (zrM (j := 0) rfl) rfl (Nat.le_of_ble_eq_true rfl) dX12_hearsAct_72 rfl rfl ?_
    refine z_aload_n (pc := 75) (k0 := 0) E dX12_hearsAct_75 rfl rfl ?_
    refine z_iload_n (pc := 76) (k0 := 1) E dX12_hearsAct_76 rfl rfl ?_
    refine z_iload_n (pc := 77) (k0 := 2) E dX12_hearsAct_77 rfl rfl ?_
    obtain ⟨r18, SM_19, h20, hf⟩ := kD_e hf
    refine z_callV0 (pc := 78) (is := [0]) (n := 2) (As := [.int a1, .int a2]) (st := []) (st' := [.int r18]) (C2 := [wM aM ct SM_19]) E (c_X12_parentHears (l := l) (G := G) (ct := ct) (aM := aM) h20) wv_X12_parentHears wd_49_7 ⟨Nat.le_of_ble_eq_true rfl, Nat.le_of_ble_eq_true rfl, Nat.le_of_ble_eq_true rfl, Nat.le_of_ble_eq_true rfl⟩ rfl rfl rfl (by decide) rfl rfl (zrM (j := 0) rfl) rfl (Nat.le_of_ble_eq_true rfl) dX12_hearsAct_78 rfl rfl ?_
    refine z_aload_n (pc := 81) (k0 := 0) E dX12_hearsAct_81 rfl rfl ?_
    refine gM_12 (pc := 82) (i := 0) E rfl wd_4_7 dX12_hearsAct_82 ?_
    refine z_iload_n (pc := 85) (k0 := 1) E dX12_hearsAct_85 rfl rfl ?_
    obtain ⟨c21, hf⟩ := kO_e hf
    refine lM_12 (pc := 86) (i := 0) E rfl c21 dX12_hearsAct_86 ?_
    obtain ⟨v22, e_v22, hf⟩ := kL_e hf
    refine z_ixor (pc := 87) (v := v22) E dX12_hearsAct_87 e_v22 ?_
    cases hf
    exact z_iret E hr dX12_hearsAct_88
  have hf := kB_f hf c15
  refine z_tswOut (pc := 6) (tgt := 89) E dX12_hearsAct_6 (by have n_c2 := lv_neT c2 (a := 2) (by decide); have n_c3 := lv_neT c3 (a := 3) (by decide); have n_c7 := lv_neT c7 (a := 4) (by decide); have n_c14 := lv_neT c14 (a := 5) (by decide); have n_c15 := lv_neT c15 (a := 6) (by decide); omega) (by decide) ?_
  refine z_aload_n (pc := 89) (k0 := 0) E dX12_hearsAct_89 rfl rfl ?_
  refine z_iload_n (pc := 90) (k0 := 1) E dX12_hearsAct_90 rfl rfl ?_
  refine z_iload_n (pc := 91) (k0 := 2) E dX12_hearsAct_91 rfl rfl ?_
  obtain ⟨r23, SM_24, h25, hf⟩ := kD_e hf
  refine z_callV0 (pc := 92) (is := [0]) (n := 2) (As := [.int a1, .int a2]) (st := []) (st' := [.int r23]) (C2 := [wM aM ct SM_24]) E (c_X12_parentHears (l := l) (G := G) (ct := ct) (aM := aM) h25) wv_X12_parentHears wd_49_7 ⟨Nat.le_of_ble_eq_true rfl, Nat.le_of_ble_eq_true rfl, Nat.le_of_ble_eq_true rfl, Nat.le_of_ble_eq_true rfl⟩ rfl rfl rfl (by decide) rfl rfl (zrM (j := 0) rfl) rfl (Nat.le_of_ble_eq_true rfl) dX12_hearsAct_92 rfl rfl ?_
  cases hf
  exact z_iret E hr dX12_hearsAct_95
noncomputable def f_X12_parentGives (SM : zMS) (a1 : Int32) (a2 : Int32) : Option (Int32 × zMS) := kC (f_X12_body SM 11) (fun SM_1 => kD (f_X12_hearsAct SM_1 a1 a2) (fun r3 SM_4 => kO (¬ (a1 < 0 ∨ 4 ≤ Int32.toNatClampNeg a1)) (kL (r3 - (SM_4.2.1 12 (Int32.toNatClampNeg a1))) (fun v7 => some (v7, SM_4)))))
theorem wv_X12_parentGives : zWV RX12 yX12_parentGives cX12_parentGives 3 (some .int) 2 := ⟨wd_49_20, wd_49_21, wd_1_5, wd_49_22, by decide +kernel⟩
def rm_X12_parentGives : Room := { frames := 3, cells := 0, slots := 0, locals := 65 }
set_option maxHeartbeats 4000000 in
set_option maxRecDepth 100000 in
theorem c_X12_parentGives {l : Launch} {G : va_G} {ct : Nat → ClassId} {aM : Nat → Nat} {SM : zMS} {a1 : Int32} {a2 : Int32} {r0 : Int32} {OM : zMS} (hf : f_X12_parentGives SM a1 a2 = some (r0, OM)) : zC l yX12_parentGives cX12_parentGives 3 (some .int) rm_X12_parentGives G ct [.ref (aM 200), .int a1, .int a2] [wM aM ct SM] [wM aM ct OM] (some (.int r0)) 0 0 := by
  refine z_enter (own := RX12) (lv := [(0, .ref (aM 200)), (1, .int a1), (2, .int a2)]) (by decide) rfl (Nat.le_of_ble_eq_true rfl) rfl ?_
  intro p e s m args below meth c A E hr hnm
  unfold f_X12_parentGives at hf
  refine z_aload_n (pc := 0) (k0 := 0) E dX12_parentGives_0 rfl rfl ?_
  refine z_bipush (pc := 1) (v := 11) E dX12_parentGives_1 (by decide) ?_
  obtain ⟨SM_1, h2, hf⟩ := kC_e hf
  refine z_callV0 (pc := 3) (is := [0]) (n := 1) (As := [.int 11]) (st := []) (st' := []) (C2 := [wM aM ct SM_1]) E (c_X12_body (l := l) (G := G) (ct := ct) (aM := aM) h2) wv_X12_body wd_49_3 ⟨Nat.le_of_ble_eq_true rfl, Nat.le_of_ble_eq_true rfl, Nat.le_of_ble_eq_true rfl, Nat.le_of_ble_eq_true rfl⟩ rfl rfl rfl (by decide) rfl rfl (zrM (j := 0) rfl) rfl (Nat.le_of_ble_eq_true rfl) dX12_parentGives_3 rfl rfl ?_
  refine z_aload_n (pc := 6) (k0 := 0) E dX12_parentGives_6 rfl rfl ?_
  refine z_iload_n (pc := 7) (k0 := 1) E dX12_parentGives_7 rfl rfl ?_
  refine z_iload_n (pc := 8) (k0 := 2) E dX12_parentGives_8 rfl rfl ?_
  obtain ⟨r3, SM_4, h5, hf⟩ := kD_e hf
  refine z_callV0 (pc := 9) (is := [0]) (n := 2) (As := [.int a1, .int a2]) (st := []) (st' := [.int r3]) (C2 := [wM aM ct SM_4]) E (c_X12_hearsAct (l := l) (G := G) (ct := ct) (aM := aM) h5) wv_X12_hearsAct wd_48_23 ⟨Nat.le_of_ble_eq_true rfl, Nat.le_of_ble_eq_true rfl, Nat.le_of_ble_eq_true rfl, Nat.le_of_ble_eq_true rfl⟩ rfl rfl rfl (by decide) rfl rfl (zrM (j := 0) rfl) rfl (Nat.le_of_ble_eq_true rfl) dX12_parentGives_9 rfl rfl ?_
  refine z_aload_n (pc := 12) (k0 := 0) E dX12_parentGives_12 rfl rfl ?_
  refine gM_12 (pc := 13) (i := 0) E rfl wd_4_7 dX12_parentGives_13 ?_
  refine z_iload_n (pc := 16) (k0 := 1) E dX12_parentGives_16 rfl rfl ?_
  obtain ⟨c6, hf⟩ := kO_e hf
  refine lM_12 (pc := 17) (i := 0) E rfl c6 dX12_parentGives_17 ?_
  obtain ⟨v7, e_v7, hf⟩ := kL_e hf
  refine z_isub (pc := 18) (v := v7) E dX12_parentGives_18 e_v7 ?_
  cases hf
  exact z_iret E hr dX12_parentGives_19
noncomputable def f_X12_softGives (SM : zMS) (a1 : Int32) (a2 : Int32) : Option (Int32 × zMS) := kC (f_X12_body SM 20) (fun SM_1 => kD (f_X12_parentGives SM_1 a1 a2) (fun r3 SM_4 => kL (r3 ^^^ 6) (fun v6 => some (v6, SM_4))))
theorem wv_X12_softGives : zWV RX12 yX12_softGives cX12_softGives 3 (some .int) 2 := ⟨wd_49_16, wd_49_17, wd_1_5, wd_49_18, by decide +kernel⟩
def rm_X12_softGives : Room := { frames := 4, cells := 0, slots := 0, locals := 87 }
set_option maxHeartbeats 4000000 in
set_option maxRecDepth 100000 in
theorem c_X12_softGives {l : Launch} {G : va_G} {ct : Nat → ClassId} {aM : Nat → Nat} {SM : zMS} {a1 : Int32} {a2 : Int32} {r0 : Int32} {OM : zMS} (hf : f_X12_softGives SM a1 a2 = some (r0, OM)) : zC l yX12_softGives cX12_softGives 3 (some .int) rm_X12_softGives G ct [.ref (aM 200), .int a1, .int a2] [wM aM ct SM] [wM aM ct OM] (some (.int r0)) 0 0 := by
  refine z_enter (own := RX12) (lv := [(0, .ref (aM 200)), (1, .int a1), (2, .int a2)]) (by decide) rfl (Nat.le_of_ble_eq_true rfl) rfl ?_
  intro p e s m args below meth c A E hr hnm
  unfold f_X12_softGives at hf
  refine z_aload_n (pc := 0) (k0 := 0) E dX12_softGives_0 rfl rfl ?_
  refine z_bipush (pc := 1) (v := 20) E dX12_softGives_1 (by decide) ?_
  obtain ⟨SM_1, h2, hf⟩ := kC_e hf
  refine z_callV0 (pc := 3) (is := [0]) (n := 1) (As := [.int 20]) (st := []) (st' := []) (C2 := [wM aM ct SM_1]) E (c_X12_body (l := l) (G := G) (ct := ct) (aM := aM) h2) wv_X12_body wd_49_3 ⟨Nat.le_of_ble_eq_true rfl, Nat.le_of_ble_eq_true rfl, Nat.le_of_ble_eq_true rfl, Nat.le_of_ble_eq_true rfl⟩ rfl rfl rfl (by decide) rfl rfl (zrM (j := 0) rfl) rfl (Nat.le_of_ble_eq_true rfl) dX12_softGives_3 rfl rfl ?_
  refine z_aload_n (pc := 6) (k0 := 0) E dX12_softGives_6 rfl rfl ?_
  refine z_iload_n (pc := 7) (k0 := 1) E dX12_softGives_7 rfl rfl ?_
  refine z_iload_n (pc := 8) (k0 := 2) E dX12_softGives_8 rfl rfl ?_
  obtain ⟨r3, SM_4, h5, hf⟩ := kD_e hf
  refine z_callV0 (pc := 9) (is := [0]) (n := 2) (As := [.int a1, .int a2]) (st := []) (st' := [.int r3]) (C2 := [wM aM ct SM_4]) E (c_X12_parentGives (l := l) (G := G) (ct := ct) (aM := aM) h5) wv_X12_parentGives wd_49_19 ⟨Nat.le_of_ble_eq_true rfl, Nat.le_of_ble_eq_true rfl, Nat.le_of_ble_eq_true rfl, Nat.le_of_ble_eq_true rfl⟩ rfl rfl rfl (by decide) rfl rfl (zrM (j := 0) rfl) rfl (Nat.le_of_ble_eq_true rfl) dX12_softGives_9 rfl rfl ?_
  refine z_bipush (pc := 12) (v := 6) E dX12_softGives_12 (by decide) ?_
  obtain ⟨v6, e_v6, hf⟩ := kL_e hf
  refine z_ixor (pc := 14) (v := v6) E dX12_softGives_14 e_v6 ?_
  cases hf
  exact z_iret E hr dX12_softGives_15
noncomputable def f_X12_givesAct (SM : zMS) (a1 : Int32) (a2 : Int32) : Option (Int32 × zMS) := kO (¬ (a1 < 0 ∨ 4 ≤ Int32.toNatClampNeg a1)) (kB ((SM.2.1 11 (Int32.toNatClampNeg a1)) = 1) (kD (f_X12_softGives SM a1 a2) (fun r3 SM_4 => some (r3, SM_4))) (kB ((SM.2.1 11 (Int32.toNatClampNeg a1)) = 4) (kC (f_X12_body SM 51) (fun SM_7 => kL (a2 + 1) (fun v9 => kD (f_X12_softGives SM_7 a1 v9) (fun r10 SM_11 => some (r10, SM_11))))) (kB ((SM.2.1 11 (Int32.toNatClampNeg a1)) = 6) (kC (f_X12_body SM 70) (fun SM_14 => kD (f_X12_parentGives SM_14 a1 a2) (fun r16 SM_17 => kD (f_X12_parentHears SM_17 a1 2) (fun r19 SM_20 => kL (r16 + r19) (fun v22 => some (v22, SM_20)))))) (kD (f_X12_parentGives SM a1 a2) (fun r23 SM_24 => some (r23, SM_24))))))
theorem wv_X12_givesAct : zWV RX12 yX12_givesAct cX12_givesAct 4 (some .int) 2 := ⟨wd_49_12, wd_49_13, wd_1_5, wd_49_14, by decide +kernel⟩
def rm_X12_givesAct : Room := { frames := 5, cells := 0, slots := 0, locals := 109 }
set_option maxHeartbeats 4000000 in
set_option maxRecDepth 100000 in
theorem c_X12_givesAct {l : Launch} {G : va_G} {ct : Nat → ClassId} {aM : Nat → Nat} {SM : zMS} {a1 : Int32} {a2 : Int32} {r0 : Int32} {OM : zMS} (hf : f_X12_givesAct SM a1 a2 = some (r0, OM)) : zC l yX12_givesAct cX12_givesAct 4 (some .int) rm_X12_givesAct G ct [.ref (aM 200), .int a1, .int a2] [wM aM ct SM] [wM aM ct OM] (some (.int r0)) 0 0 := by
  refine z_enter (own := RX12) (lv := [(0, .ref (aM 200)), (1, .int a1), (2, .int a2)]) (by decide) rfl (Nat.le_of_ble_eq_true rfl) rfl ?_
  intro p e s m args below meth c A E hr hnm
  unfold f_X12_givesAct at hf
  refine z_aload_n (pc := 0) (k0 := 0) E dX12_givesAct_0 rfl rfl ?_
  refine gM_11 (pc := 1) (i := 0) E rfl wd_4_6 dX12_givesAct_1 ?_
  refine z_iload_n (pc := 4) (k0 := 1) E dX12_givesAct_4 rfl rfl ?_
  obtain ⟨c1, hf⟩ := kO_e hf
  refine lM_11 (pc := 5) (i := 0) E rfl c1 dX12_givesAct_5 ?_
  by_cases c2 : (SM.2.1 11 (Int32.toNatClampNeg a1)) = 1
  · have hf := kB_t hf c2
    refine z_lsw (pc := 6) (tgt := 40) (off := 34) E dX12_givesAct_6 (by decide) (by rw [c2]; rfl) (by decide) ?_
    refine z_aload_n (pc := 40) (k0 := 0) E dX12_givesAct_40 rfl rfl ?_
    refine z_iload_n (pc := 41) (k0 := 1) E dX12_givesAct_41 rfl rfl ?_
    refine z_iload_n (pc := 42) (k0 := 2) E dX12_givesAct_42 rfl rfl ?_
    obtain ⟨r3, SM_4, h5, hf⟩ := kD_e hf
    refine z_callV0 (pc := 43) (is := [0]) (n := 2) (As := [.int a1, .int a2]) (st := []) (st' := [.int r3]) (C2 := [wM aM ct SM_4]) E (c_X12_softGives (l := l) (G := G) (ct := ct) (aM := aM) h5) wv_X12_softGives wd_49_15 ⟨Nat.le_of_ble_eq_true rfl, Nat.le_of_ble_eq_true rfl, Nat.le_of_ble_eq_true rfl, Nat.le_of_ble_eq_true rfl⟩ rfl rfl rfl (by decide) rfl rfl (zrM (j := 0) rfl) rfl (Nat.le_of_ble_eq_true rfl) dX12_givesAct_43 rfl rfl ?_
    cases hf
    exact z_iret E hr dX12_givesAct_46
  have hf := kB_f hf c2
  by_cases c6 : (SM.2.1 11 (Int32.toNatClampNeg a1)) = 4
  · have hf := kB_t hf c6
    refine z_lsw (pc := 6) (tgt := 47) (off := 41) E dX12_givesAct_6 (by decide) (by rw [c6]; rfl) (by decide) ?_
    refine z_aload_n (pc := 47) (k0 := 0) E dX12_givesAct_47 rfl rfl ?_
    refine z_bipush (pc := 48) (v := 51) E dX12_givesAct_48 (by decide) ?_
    obtain ⟨SM_7, h8, hf⟩ := kC_e hf
    refine z_callV0 (pc := 50) (is := [0]) (n := 1) (As := [.int 51]) (st := []) (st' := []) (C2 := [wM aM ct SM_7]) E (c_X12_body (l := l) (G := G) (ct := ct) (aM := aM) h8) wv_X12_body wd_49_3 ⟨Nat.le_of_ble_eq_true rfl, Nat.le_of_ble_eq_true rfl, Nat.le_of_ble_eq_true rfl, Nat.le_of_ble_eq_true rfl⟩ rfl rfl rfl (by decide) rfl rfl (zrM (j := 0) rfl) rfl (Nat.le_of_ble_eq_true rfl) dX12_givesAct_50 rfl rfl ?_
    refine z_aload_n (pc := 53) (k0 := 0) E dX12_givesAct_53 rfl rfl ?_
    refine z_iload_n (pc := 54) (k0 := 1) E dX12_givesAct_54 rfl rfl ?_
    refine z_iload_n (pc := 55) (k0 := 2) E dX12_givesAct_55 rfl rfl ?_
    refine z_iconst (pc := 56) (v := 1) E dX12_givesAct_56 (by decide) ?_
    obtain ⟨v9, e_v9, hf⟩ := kL_e hf
    refine z_iadd (pc := 57) (v := v9) E dX12_givesAct_57 e_v9 ?_
    obtain ⟨r10, SM_11, h12, hf⟩ := kD_e hf
    refine z_callV0 (pc := 58) (is := [0]) (n := 2) (As := [.int a1, .int v9]) (st := []) (st' := [.int r10]) (C2 := [wM aM ct SM_11]) E (c_X12_softGives (l := l) (G := G) (ct := ct) (aM := aM) h12) wv_X12_softGives wd_49_15 ⟨Nat.le_of_ble_eq_true rfl, Nat.le_of_ble_eq_true rfl, Nat.le_of_ble_eq_true rfl, Nat.le_of_ble_eq_true rfl⟩ rfl rfl rfl (by decide) rfl rfl (zrM (j := 0) rfl) rfl (Nat.le_of_ble_eq_true rfl) dX12_givesAct_58 rfl rfl ?_
    cases hf
    exact z_iret E hr dX12_givesAct_61
  have hf := kB_f hf c6
  by_cases c13 : (SM.2.1 11 (Int32.toNatClampNeg a1)) = 6
  · have hf := kB_t hf c13
    refine z_lsw (pc := 6) (tgt := 62) (off := 56) E dX12_givesAct_6 (by decide) (by rw [c13]; rfl) (by decide) ?_
    refine z_aload_n (pc := 62) (k0 := 0) E dX12_givesAct_62 rfl rfl ?_
    refine z_bipush (pc := 63) (v := 70) E dX12_givesAct_63 (by decide) ?_
    obtain ⟨SM_14, h15, hf⟩ := kC_e hf
    refine z_callV0 (pc := 65) (is := [0]) (n := 1) (As := [.int 70]) (st := []) (st' := []) (C2 := [wM aM ct SM_14]) E (c_X12_body (l := l) (G := G) (ct := ct) (aM := aM) h15) wv_X12_body wd_49_3 ⟨Nat.le_of_ble_eq_true rfl, Nat.le_of_ble_eq_true rfl, Nat.le_of_ble_eq_true rfl, Nat.le_of_ble_eq_true rfl⟩ rfl rfl rfl (by decide) rfl rfl (zrM (j := 0) rfl) rfl (Nat.le_of_ble_eq_true rfl) dX12_givesAct_65 rfl rfl ?_
    refine z_aload_n (pc := 68) (k0 := 0) E dX12_givesAct_68 rfl rfl ?_
    refine z_iload_n (pc := 69) (k0 := 1) E dX12_givesAct_69 rfl rfl ?_
    refine z_iload_n (pc := 70) (k0 := 2) E dX12_givesAct_70 rfl rfl ?_
    obtain ⟨r16, SM_17, h18, hf⟩ := kD_e hf
    refine z_callV0 (pc := 71) (is := [0]) (n := 2) (As := [.int a1, .int a2]) (st := []) (st' := [.int r16]) (C2 := [wM aM ct SM_17]) E (c_X12_parentGives (l := l) (G := G) (ct := ct) (aM := aM) h18) wv_X12_parentGives wd_49_19 ⟨Nat.le_of_ble_eq_true rfl, Nat.le_of_ble_eq_true rfl, Nat.le_of_ble_eq_true rfl, Nat.le_of_ble_eq_true rfl⟩ rfl rfl rfl (by decide) rfl rfl (zrM (j := 0) rfl) rfl (Nat.le_of_ble_eq_true rfl) dX12_givesAct_71 rfl rfl ?_
    refine z_istore_n (pc := 74) (lv' := [(3, .int r16), (0, .ref (aM 200)), (1, .int a1), (2, .int a2)]) E dX12_givesAct_74 rfl (by decide) rfl ?_
    refine z_iload_n (pc := 75) (k0 := 0) E dX12_givesAct_75 rfl rfl ?_
    refine z_aload_n (pc := 76) (k0 := 1) E dX12_givesAct_76 rfl rfl ?_
    refine z_iload_n (pc := 77) (k0 := 2) E dX12_givesAct_77 rfl rfl ?_
    refine z_iconst (pc := 78) (v := 2) E dX12_givesAct_78 (by decide) ?_
    obtain ⟨r19, SM_20, h21, hf⟩ := kD_e hf
    refine z_callV0 (pc := 79) (is := [0]) (n := 2) (As := [.int a1, .int 2]) (st := [.int r16]) (st' := [.int r19, .int r16]) (C2 := [wM aM ct SM_20]) E (c_X12_parentHears (l := l) (G := G) (ct := ct) (aM := aM) h21) wv_X12_parentHears wd_49_7 ⟨Nat.le_of_ble_eq_true rfl, Nat.le_of_ble_eq_true rfl, Nat.le_of_ble_eq_true rfl, Nat.le_of_ble_eq_true rfl⟩ rfl rfl rfl (by decide) rfl rfl (zrM (j := 0) rfl) rfl (Nat.le_of_ble_eq_true rfl) dX12_givesAct_79 rfl rfl ?_
    obtain ⟨v22, e_v22, hf⟩ := kL_e hf
    refine z_iadd (pc := 82) (v := v22) E dX12_givesAct_82 e_v22 ?_
    cases hf
    exact z_iret E hr dX12_givesAct_83
  have hf := kB_f hf c13
  refine z_lsw (pc := 6) (tgt := 84) (off := 78) E dX12_givesAct_6 (by decide) ((lv_osw c2 (by decide)).trans ((lv_osw c6 (by decide)).trans ((lv_osw c13 (by decide)).trans rfl))) (by decide) ?_
  refine z_aload_n (pc := 84) (k0 := 0) E dX12_givesAct_84 rfl rfl ?_
  refine z_iload_n (pc := 85) (k0 := 1) E dX12_givesAct_85 rfl rfl ?_
  refine z_iload_n (pc := 86) (k0 := 2) E dX12_givesAct_86 rfl rfl ?_
  obtain ⟨r23, SM_24, h25, hf⟩ := kD_e hf
  refine z_callV0 (pc := 87) (is := [0]) (n := 2) (As := [.int a1, .int a2]) (st := []) (st' := [.int r23]) (C2 := [wM aM ct SM_24]) E (c_X12_parentGives (l := l) (G := G) (ct := ct) (aM := aM) h25) wv_X12_parentGives wd_49_19 ⟨Nat.le_of_ble_eq_true rfl, Nat.le_of_ble_eq_true rfl, Nat.le_of_ble_eq_true rfl, Nat.le_of_ble_eq_true rfl⟩ rfl rfl rfl (by decide) rfl rfl (zrM (j := 0) rfl) rfl (Nat.le_of_ble_eq_true rfl) dX12_givesAct_87 rfl rfl ?_
  cases hf
  exact z_iret E hr dX12_givesAct_90
noncomputable def f_X12_parentTells (SM : zMS) (a1 : Int32) (a2 : Int32) : Option (Int32 × zMS) := kC (f_X12_body SM 12) (fun SM_1 => kD (f_X12_givesAct SM_1 a1 a2) (fun r3 SM_4 => kL (r3 * 2) (fun v6 => some (v6, SM_4))))
theorem wv_X12_parentTells : zWV RX12 yX12_parentTells cX12_parentTells 3 (some .int) 2 := ⟨wd_50_4, wd_50_5, wd_1_5, wd_50_6, by decide +kernel⟩
def rm_X12_parentTells : Room := { frames := 6, cells := 0, slots := 0, locals := 132 }
set_option maxHeartbeats 4000000 in
set_option maxRecDepth 100000 in
theorem c_X12_parentTells {l : Launch} {G : va_G} {ct : Nat → ClassId} {aM : Nat → Nat} {SM : zMS} {a1 : Int32} {a2 : Int32} {r0 : Int32} {OM : zMS} (hf : f_X12_parentTells SM a1 a2 = some (r0, OM)) : zC l yX12_parentTells cX12_parentTells 3 (some .int) rm_X12_parentTells G ct [.ref (aM 200), .int a1, .int a2] [wM aM ct SM] [wM aM ct OM] (some (.int r0)) 0 0 := by
  refine z_enter (own := RX12) (lv := [(0, .ref (aM 200)), (1, .int a1), (2, .int a2)]) (by decide) rfl (Nat.le_of_ble_eq_true rfl) rfl ?_
  intro p e s m args below meth c A E hr hnm
  unfold f_X12_parentTells at hf
  refine z_aload_n (pc := 0) (k0 := 0) E dX12_parentTells_0 rfl rfl ?_
  refine z_bipush (pc := 1) (v := 12) E dX12_parentTells_1 (by decide) ?_
  obtain ⟨SM_1, h2, hf⟩ := kC_e hf
  refine z_callV0 (pc := 3) (is := [0]) (n := 1) (As := [.int 12]) (st := []) (st' := []) (C2 := [wM aM ct SM_1]) E (c_X12_body (l := l) (G := G) (ct := ct) (aM := aM) h2) wv_X12_body wd_49_3 ⟨Nat.le_of_ble_eq_true rfl, Nat.le_of_ble_eq_true rfl, Nat.le_of_ble_eq_true rfl, Nat.le_of_ble_eq_true rfl⟩ rfl rfl rfl (by decide) rfl rfl (zrM (j := 0) rfl) rfl (Nat.le_of_ble_eq_true rfl) dX12_parentTells_3 rfl rfl ?_
  refine z_aload_n (pc := 6) (k0 := 0) E dX12_parentTells_6 rfl rfl ?_
  refine z_iload_n (pc := 7) (k0 := 1) E dX12_parentTells_7 rfl rfl ?_
  refine z_iload_n (pc := 8) (k0 := 2) E dX12_parentTells_8 rfl rfl ?_
  obtain ⟨r3, SM_4, h5, hf⟩ := kD_e hf
  refine z_callV0 (pc := 9) (is := [0]) (n := 2) (As := [.int a1, .int a2]) (st := []) (st' := [.int r3]) (C2 := [wM aM ct SM_4]) E (c_X12_givesAct (l := l) (G := G) (ct := ct) (aM := aM) h5) wv_X12_givesAct wd_49_11 ⟨Nat.le_of_ble_eq_true rfl, Nat.le_of_ble_eq_true rfl, Nat.le_of_ble_eq_true rfl, Nat.le_of_ble_eq_true rfl⟩ rfl rfl rfl (by decide) rfl rfl (zrM (j := 0) rfl) rfl (Nat.le_of_ble_eq_true rfl) dX12_parentTells_9 rfl rfl ?_
  refine z_iconst (pc := 12) (v := 2) E dX12_parentTells_12 (by decide) ?_
  obtain ⟨v6, e_v6, hf⟩ := kL_e hf
  refine z_imul (pc := 13) (v := v6) E dX12_parentTells_13 e_v6 ?_
  cases hf
  exact z_iret E hr dX12_parentTells_14
noncomputable def f_X12_tellsAct_b36 (SM : zMS) (x1 : Int32) (x2 : Int32) : Option (Int32 × zMS) := kC (f_X12_body SM 40) (fun SM_18 => kD (f_X12_parentTells SM_18 x1 x2) (fun r20 SM_21 => kD (f_X12_givesAct SM_21 x1 1) (fun r23 SM_24 => kL (r20 + r23) (fun v26 => some (v26, SM_24)))))
noncomputable def f_X12_tellsAct (SM : zMS) (a1 : Int32) (a2 : Int32) : Option (Int32 × zMS) := kO (¬ (a1 < 0 ∨ 4 ≤ Int32.toNatClampNeg a1)) (kB ((SM.2.1 11 (Int32.toNatClampNeg a1)) = 3) (f_X12_tellsAct_b36  SM a1 a2) (kB ((SM.2.1 11 (Int32.toNatClampNeg a1)) = 4) (kD (f_X12_parentTells SM a1 a2) (fun r4 SM_5 => some (r4, SM_5))) (kB ((SM.2.1 11 (Int32.toNatClampNeg a1)) = 5) (kC (f_X12_body SM 60) (fun SM_8 => kL (a2 - a1) (fun v10 => kD (f_X12_parentTells SM_8 a1 v10) (fun r11 SM_12 => some (r11, SM_12))))) (kB ((SM.2.1 11 (Int32.toNatClampNeg a1)) = 6) (f_X12_tellsAct_b36  SM a1 a2) (kD (f_X12_parentTells SM a1 a2) (fun r15 SM_16 => some (r15, SM_16)))))))
theorem wv_X12_tellsAct : zWV RX12 yX12_tellsAct cX12_tellsAct 4 (some .int) 2 := ⟨wd_50_0, wd_50_1, wd_1_5, wd_50_2, by decide +kernel⟩
def rm_X12_tellsAct : Room := { frames := 7, cells := 0, slots := 0, locals := 154 }
set_option maxHeartbeats 4000000 in
set_option maxRecDepth 100000 in
theorem c_X12_tellsAct {l : Launch} {G : va_G} {ct : Nat → ClassId} {aM : Nat → Nat} {SM : zMS} {a1 : Int32} {a2 : Int32} {r0 : Int32} {OM : zMS} (hf : f_X12_tellsAct SM a1 a2 = some (r0, OM)) : zC l yX12_tellsAct cX12_tellsAct 4 (some .int) rm_X12_tellsAct G ct [.ref (aM 200), .int a1, .int a2] [wM aM ct SM] [wM aM ct OM] (some (.int r0)) 0 0 := by
  refine z_enter (own := RX12) (lv := [(0, .ref (aM 200)), (1, .int a1), (2, .int a2)]) (by decide) rfl (Nat.le_of_ble_eq_true rfl) rfl ?_
  intro p e s m args below meth c A E hr hnm
  have B36 : ∀ (SM : zMS) (x1 : Int32) (x2 : Int32), f_X12_tellsAct_b36  SM x1 x2 = some (r0, OM) → zJ p l e rm_X12_tellsAct s m args below meth c (zQ G ct (some (.int r0)) [wM aM ct OM] A below args s 0 0) A G 4 0 0 [wM aM ct SM] [(0, .ref (aM 200)), (1, .int x1), (2, .int x2)] 36 [] := by
    intro SM x1 x2 hf
    unfold f_X12_tellsAct_b36 at hf
    refine z_aload_n (pc := 36) (k0 := 0) E dX12_tellsAct_36 rfl rfl ?_
    refine z_bipush (pc := 37) (v := 40) E dX12_tellsAct_37 (by decide) ?_
    obtain ⟨SM_18, h19, hf⟩ := kC_e hf
    refine z_callV0 (pc := 39) (is := [0]) (n := 1) (As := [.int 40]) (st := []) (st' := []) (C2 := [wM aM ct SM_18]) E (c_X12_body (l := l) (G := G) (ct := ct) (aM := aM) h19) wv_X12_body wd_49_3 ⟨Nat.le_of_ble_eq_true rfl, Nat.le_of_ble_eq_true rfl, Nat.le_of_ble_eq_true rfl, Nat.le_of_ble_eq_true rfl⟩ rfl rfl rfl (by decide) rfl rfl (zrM (j := 0) rfl) rfl (Nat.le_of_ble_eq_true rfl) dX12_tellsAct_39 rfl rfl ?_
    refine z_aload_n (pc := 42) (k0 := 0) E dX12_tellsAct_42 rfl rfl ?_
    refine z_iload_n (pc := 43) (k0 := 1) E dX12_tellsAct_43 rfl rfl ?_
    refine z_iload_n (pc := 44) (k0 := 2) E dX12_tellsAct_44 rfl rfl ?_
    obtain ⟨r20, SM_21, h22, hf⟩ := kD_e hf
    refine z_callV0 (pc := 45) (is := [0]) (n := 2) (As := [.int x1, .int x2]) (st := []) (st' := [.int r20]) (C2 := [wM aM ct SM_21]) E (c_X12_parentTells (l := l) (G := G) (ct := ct) (aM := aM) h22) wv_X12_parentTells wd_50_3 ⟨Nat.le_of_ble_eq_true rfl, Nat.le_of_ble_eq_true rfl, Nat.le_of_ble_eq_true rfl, Nat.le_of_ble_eq_true rfl⟩ rfl rfl rfl (by decide) rfl rfl (zrM (j := 0) rfl) rfl (Nat.le_of_ble_eq_true rfl) dX12_tellsAct_45 rfl rfl ?_
    refine z_istore_n (pc := 48) (lv' := [(3, .int r20), (0, .ref (aM 200)), (1, .int x1), (2, .int x2)]) E dX12_tellsAct_48 rfl (by decide) rfl ?_
    refine z_iload_n (pc := 49) (k0 := 0) E dX12_tellsAct_49 rfl rfl ?_
    refine z_aload_n (pc := 50) (k0 := 1) E dX12_tellsAct_50 rfl rfl ?_
    refine z_iload_n (pc := 51) (k0 := 2) E dX12_tellsAct_51 rfl rfl ?_
    refine z_iconst (pc := 52) (v := 1) E dX12_tellsAct_52 (by decide) ?_
    obtain ⟨r23, SM_24, h25, hf⟩ := kD_e hf
    refine z_callV0 (pc := 53) (is := [0]) (n := 2) (As := [.int x1, .int 1]) (st := [.int r20]) (st' := [.int r23, .int r20]) (C2 := [wM aM ct SM_24]) E (c_X12_givesAct (l := l) (G := G) (ct := ct) (aM := aM) h25) wv_X12_givesAct wd_49_11 ⟨Nat.le_of_ble_eq_true rfl, Nat.le_of_ble_eq_true rfl, Nat.le_of_ble_eq_true rfl, Nat.le_of_ble_eq_true rfl⟩ rfl rfl rfl (by decide) rfl rfl (zrM (j := 0) rfl) rfl (Nat.le_of_ble_eq_true rfl) dX12_tellsAct_53 rfl rfl ?_
    obtain ⟨v26, e_v26, hf⟩ := kL_e hf
    refine z_iadd (pc := 56) (v := v26) E dX12_tellsAct_56 e_v26 ?_
    cases hf
    exact z_iret E hr dX12_tellsAct_57
  unfold f_X12_tellsAct at hf
  refine z_aload_n (pc := 0) (k0 := 0) E dX12_tellsAct_0 rfl rfl ?_
  refine gM_11 (pc := 1) (i := 0) E rfl wd_4_6 dX12_tellsAct_1 ?_
  refine z_iload_n (pc := 4) (k0 := 1) E dX12_tellsAct_4 rfl rfl ?_
  obtain ⟨c1, hf⟩ := kO_e hf
  refine lM_11 (pc := 5) (i := 0) E rfl c1 dX12_tellsAct_5 ?_
  by_cases c2 : (SM.2.1 11 (Int32.toNatClampNeg a1)) = 3
  · have hf := kB_t hf c2
    refine z_tswIn (pc := 6) (tgt := 36) (v := 3) (n := 3) (off := 30) E dX12_tellsAct_6 c2 (by decide) (by decide) (by decide) (by decide) (by decide) ?_
    exact B36 SM a1 a2 hf
  have hf := kB_f hf c2
  by_cases c3 : (SM.2.1 11 (Int32.toNatClampNeg a1)) = 4
  · have hf := kB_t hf c3
    refine z_tswIn (pc := 6) (tgt := 73) (v := 4) (n := 4) (off := 67) E dX12_tellsAct_6 c3 (by decide) (by decide) (by decide) (by decide) (by decide) ?_
    refine z_aload_n (pc := 73) (k0 := 0) E dX12_tellsAct_73 rfl rfl ?_
    refine z_iload_n (pc := 74) (k0 := 1) E dX12_tellsAct_74 rfl rfl ?_
    refine z_iload_n (pc := 75) (k0 := 2) E dX12_tellsAct_75 rfl rfl ?_
    obtain ⟨r4, SM_5, h6, hf⟩ := kD_e hf
    refine z_callV0 (pc := 76) (is := [0]) (n := 2) (As := [.int a1, .int a2]) (st := []) (st' := [.int r4]) (C2 := [wM aM ct SM_5]) E (c_X12_parentTells (l := l) (G := G) (ct := ct) (aM := aM) h6) wv_X12_parentTells wd_50_3 ⟨Nat.le_of_ble_eq_true rfl, Nat.le_of_ble_eq_true rfl, Nat.le_of_ble_eq_true rfl, Nat.le_of_ble_eq_true rfl⟩ rfl rfl rfl (by decide) rfl rfl (zrM (j := 0) rfl) rfl (Nat.le_of_ble_eq_true rfl) dX12_tellsAct_76 rfl rfl ?_
    cases hf
    exact z_iret E hr dX12_tellsAct_79
  have hf := kB_f hf c3
  by_cases c7 : (SM.2.1 11 (Int32.toNatClampNeg a1)) = 5
  · have hf := kB_t hf c7
    refine z_tswIn (pc := 6) (tgt := 58) (v := 5) (n := 5) (off := 52) E dX12_tellsAct_6 c7 (by decide) (by decide) (by decide) (by decide) (by decide) ?_
    refine z_aload_n (pc := 58) (k0 := 0) E dX12_tellsAct_58 rfl rfl ?_
    refine z_bipush (pc := 59) (v := 60) E dX12_tellsAct_59 (by decide) ?_
    obtain ⟨SM_8, h9, hf⟩ := kC_e hf
    refine z_callV0 (pc := 61) (is := [0]) (n := 1) (As := [.int 60]) (st := []) (st' := []) (C2 := [wM aM ct SM_8]) E (c_X12_body (l := l) (G := G) (ct := ct) (aM := aM) h9) wv_X12_body wd_49_3 ⟨Nat.le_of_ble_eq_true rfl, Nat.le_of_ble_eq_true rfl, Nat.le_of_ble_eq_true rfl, Nat.le_of_ble_eq_true rfl⟩ rfl rfl rfl (by decide) rfl rfl (zrM (j := 0) rfl) rfl (Nat.le_of_ble_eq_true rfl) dX12_tellsAct_61 rfl rfl ?_
    refine z_aload_n (pc := 64) (k0 := 0) E dX12_tellsAct_64 rfl rfl ?_
    refine z_iload_n (pc := 65) (k0 := 1) E dX12_tellsAct_65 rfl rfl ?_
    refine z_iload_n (pc := 66) (k0 := 2) E dX12_tellsAct_66 rfl rfl ?_
    refine z_iload_n (pc := 67) (k0 := 1) E dX12_tellsAct_67 rfl rfl ?_
    obtain ⟨v10, e_v10, hf⟩ := kL_e hf
    refine z_isub (pc := 68) (v := v10) E dX12_tellsAct_68 e_v10 ?_
    obtain ⟨r11, SM_12, h13, hf⟩ := kD_e hf
    refine z_callV0 (pc := 69) (is := [0]) (n := 2) (As := [.int a1, .int v10]) (st := []) (st' := [.int r11]) (C2 := [wM aM ct SM_12]) E (c_X12_parentTells (l := l) (G := G) (ct := ct) (aM := aM) h13) wv_X12_parentTells wd_50_3 ⟨Nat.le_of_ble_eq_true rfl, Nat.le_of_ble_eq_true rfl, Nat.le_of_ble_eq_true rfl, Nat.le_of_ble_eq_true rfl⟩ rfl rfl rfl (by decide) rfl rfl (zrM (j := 0) rfl) rfl (Nat.le_of_ble_eq_true rfl) dX12_tellsAct_69 rfl rfl ?_
    cases hf
    exact z_iret E hr dX12_tellsAct_72
  have hf := kB_f hf c7
  by_cases c14 : (SM.2.1 11 (Int32.toNatClampNeg a1)) = 6
  · have hf := kB_t hf c14
    refine z_tswIn (pc := 6) (tgt := 36) (v := 6) (n := 6) (off := 30) E dX12_tellsAct_6 c14 (by decide) (by decide) (by decide) (by decide) (by decide) ?_
    exact B36 SM a1 a2 hf
  have hf := kB_f hf c14
  refine z_tswOut (pc := 6) (tgt := 73) E dX12_tellsAct_6 (by have n_c2 := lv_neT c2 (a := 3) (by decide); have n_c3 := lv_neT c3 (a := 4) (by decide); have n_c7 := lv_neT c7 (a := 5) (by decide); have n_c14 := lv_neT c14 (a := 6) (by decide); omega) (by decide) ?_
  refine z_aload_n (pc := 73) (k0 := 0) E dX12_tellsAct_73 rfl rfl ?_
  refine z_iload_n (pc := 74) (k0 := 1) E dX12_tellsAct_74 rfl rfl ?_
  refine z_iload_n (pc := 75) (k0 := 2) E dX12_tellsAct_75 rfl rfl ?_
  obtain ⟨r15, SM_16, h17, hf⟩ := kD_e hf
  refine z_callV0 (pc := 76) (is := [0]) (n := 2) (As := [.int a1, .int a2]) (st := []) (st' := [.int r15]) (C2 := [wM aM ct SM_16]) E (c_X12_parentTells (l := l) (G := G) (ct := ct) (aM := aM) h17) wv_X12_parentTells wd_50_3 ⟨Nat.le_of_ble_eq_true rfl, Nat.le_of_ble_eq_true rfl, Nat.le_of_ble_eq_true rfl, Nat.le_of_ble_eq_true rfl⟩ rfl rfl rfl (by decide) rfl rfl (zrM (j := 0) rfl) rfl (Nat.le_of_ble_eq_true rfl) dX12_tellsAct_76 rfl rfl ?_
  cases hf
  exact z_iret E hr dX12_tellsAct_79
noncomputable def f_X12_act (SM : zMS) (a1 : Int32) (a2 : Int32) (a3 : Int32) : Option (Int32 × zMS) := kL (mSI SM 70 0) (fun SM_1 => kC (f_X12_isParent SM_1 a1) (fun r2 => kB (r2 = 0) (some (0, SM_1)) (kC (f_X12_in SM_1 a2 0 2) (fun r5 => kB (r5 = 0) (some (0, SM_1)) (kB (a2 = 0) (kD (f_X12_hearsAct SM_1 a1 a3) (fun r16 SM_17 => some (r16, SM_17))) (kB (a2 = 1) (kD (f_X12_givesAct SM_1 a1 a3) (fun r13 SM_14 => some (r13, SM_14))) (kD (f_X12_tellsAct SM_1 a1 a3) (fun r10 SM_11 => some (r10, SM_11)))))))))
theorem wv_X12_act : zWV RX12 yX12_act cX12_act 4 (some .int) 3 := ⟨wd_48_20, wd_48_21, wd_1_5, wd_48_22, by decide +kernel⟩
def rm_X12_act : Room := { frames := 8, cells := 0, slots := 0, locals := 177 }
set_option maxHeartbeats 4000000 in
set_option maxRecDepth 100000 in
theorem c_X12_act {l : Launch} {G : va_G} {ct : Nat → ClassId} {aM : Nat → Nat} {SM : zMS} {a1 : Int32} {a2 : Int32} {a3 : Int32} {r0 : Int32} {OM : zMS} (hf : f_X12_act SM a1 a2 a3 = some (r0, OM)) : zC l yX12_act cX12_act 4 (some .int) rm_X12_act G ct [.ref (aM 200), .int a1, .int a2, .int a3] [wM aM ct SM] [wM aM ct OM] (some (.int r0)) 0 0 := by
  refine z_enter (own := RX12) (lv := [(0, .ref (aM 200)), (1, .int a1), (2, .int a2), (3, .int a3)]) (by decide) rfl (Nat.le_of_ble_eq_true rfl) rfl ?_
  intro p e s m args below meth c A E hr hnm
  unfold f_X12_act at hf
  refine z_aload_n (pc := 0) (k0 := 0) E dX12_act_0 rfl rfl ?_
  refine z_iconst (pc := 1) (v := 0) E dX12_act_1 (by decide) ?_
  obtain ⟨SM_1, e_SM_1, hf⟩ := kL_e hf
  refine pM_70 (pc := 2) (i := 0) (S1 := SM_1) E rfl e_SM_1 wd_6_17 dX12_act_2 ?_
  show zJ p l e rm_X12_act s m args below meth c (zQ G ct (some (.int r0)) [wM aM ct OM] A below args s 0 0) A G 4 0 0 [wM aM ct SM_1] [(0, .ref (aM 200)), (1, .int a1), (2, .int a2), (3, .int a3)] 5 []
  refine z_aload_n (pc := 5) (k0 := 0) E dX12_act_5 rfl rfl ?_
  refine z_iload_n (pc := 6) (k0 := 1) E dX12_act_6 rfl rfl ?_
  obtain ⟨r2, h3, hf⟩ := kC_e hf
  refine z_callV0 (pc := 7) (is := [0]) (n := 1) (As := [.int a1]) (st := []) (st' := [.int r2]) (C2 := [wM aM ct SM_1]) E (c_X12_isParent (l := l) (G := G) (ct := ct) (aM := aM) h3) wv_X12_isParent wd_15_13 ⟨Nat.le_of_ble_eq_true rfl, Nat.le_of_ble_eq_true rfl, Nat.le_of_ble_eq_true rfl, Nat.le_of_ble_eq_true rfl⟩ rfl rfl rfl (by decide) rfl rfl (zrM (j := 0) rfl) rfl (Nat.le_of_ble_eq_true rfl) dX12_act_7 rfl rfl ?_
  refine z_if_eq (pc := 10) (tgt := 23) E dX12_act_10 (by decide) (fun c4 => ?_) (fun c4 => ?_)
  · have hf := kB_t hf c4
    refine z_iconst (pc := 23) (v := 0) E dX12_act_23 (by decide) ?_
    cases hf
    exact z_iret E hr dX12_act_24
  · have hf := kB_f hf c4
    refine z_aload_n (pc := 13) (k0 := 0) E dX12_act_13 rfl rfl ?_
    refine z_iload_n (pc := 14) (k0 := 2) E dX12_act_14 rfl rfl ?_
    refine z_iconst (pc := 15) (v := 0) E dX12_act_15 (by decide) ?_
    refine z_iconst (pc := 16) (v := 2) E dX12_act_16 (by decide) ?_
    obtain ⟨r5, h6, hf⟩ := kC_e hf
    refine z_callV0 (pc := 17) (is := [0]) (n := 3) (As := [.int a2, .int 0, .int 2]) (st := []) (st' := [.int r5]) (C2 := [wM aM ct SM_1]) E (c_X12_in (l := l) (G := G) (ct := ct) (aM := aM) h6) wv_X12_in wd_7_11 ⟨Nat.le_of_ble_eq_true rfl, Nat.le_of_ble_eq_true rfl, Nat.le_of_ble_eq_true rfl, Nat.le_of_ble_eq_true rfl⟩ rfl rfl rfl (by decide) rfl rfl (zrM (j := 0) rfl) rfl (Nat.le_of_ble_eq_true rfl) dX12_act_17 rfl rfl ?_
    refine z_if_ne (pc := 20) (tgt := 25) E dX12_act_20 (by decide) (fun c7 => ?_) (fun c7 => ?_)
    · have hf := kB_f hf c7
      refine z_iload_n (pc := 25) (k0 := 2) E dX12_act_25 rfl rfl ?_
      refine z_if_ne (pc := 26) (tgt := 38) E dX12_act_26 (by decide) (fun c8 => ?_) (fun c8 => ?_)
      · have hf := kB_f hf c8
        refine z_iload_n (pc := 38) (k0 := 2) E dX12_act_38 rfl rfl ?_
        refine z_iconst (pc := 39) (v := 1) E dX12_act_39 (by decide) ?_
        refine z_icmp_ne (pc := 40) (tgt := 52) E dX12_act_40 (by decide) (fun c9 => ?_) (fun c9 => ?_)
        · have hf := kB_f hf c9
          refine z_aload_n (pc := 52) (k0 := 0) E dX12_act_52 rfl rfl ?_
          refine z_iload_n (pc := 53) (k0 := 1) E dX12_act_53 rfl rfl ?_
          refine z_iload_n (pc := 54) (k0 := 3) E dX12_act_54 rfl rfl ?_
          obtain ⟨r10, SM_11, h12, hf⟩ := kD_e hf
          refine z_callV0 (pc := 55) (is := [0]) (n := 2) (As := [.int a1, .int a3]) (st := []) (st' := [.int r10]) (C2 := [wM aM ct SM_11]) E (c_X12_tellsAct (l := l) (G := G) (ct := ct) (aM := aM) h12) wv_X12_tellsAct wd_49_23 ⟨Nat.le_of_ble_eq_true rfl, Nat.le_of_ble_eq_true rfl, Nat.le_of_ble_eq_true rfl, Nat.le_of_ble_eq_true rfl⟩ rfl rfl rfl (by decide) rfl rfl (zrM (j := 0) rfl) rfl (Nat.le_of_ble_eq_true rfl) dX12_act_55 rfl rfl ?_
          cases hf
          exact z_iret E hr dX12_act_58
        · have hf := kB_t hf c9
          refine z_aload_n (pc := 43) (k0 := 0) E dX12_act_43 rfl rfl ?_
          refine z_iload_n (pc := 44) (k0 := 1) E dX12_act_44 rfl rfl ?_
          refine z_iload_n (pc := 45) (k0 := 3) E dX12_act_45 rfl rfl ?_
          obtain ⟨r13, SM_14, h15, hf⟩ := kD_e hf
          refine z_callV0 (pc := 46) (is := [0]) (n := 2) (As := [.int a1, .int a3]) (st := []) (st' := [.int r13]) (C2 := [wM aM ct SM_14]) E (c_X12_givesAct (l := l) (G := G) (ct := ct) (aM := aM) h15) wv_X12_givesAct wd_49_11 ⟨Nat.le_of_ble_eq_true rfl, Nat.le_of_ble_eq_true rfl, Nat.le_of_ble_eq_true rfl, Nat.le_of_ble_eq_true rfl⟩ rfl rfl rfl (by decide) rfl rfl (zrM (j := 0) rfl) rfl (Nat.le_of_ble_eq_true rfl) dX12_act_46 rfl rfl ?_
          refine z_goto (pc := 49) (tgt := 58) E dX12_act_49 (by decide) ?_
          cases hf
          exact z_iret E hr dX12_act_58
      · have hf := kB_t hf c8
        refine z_aload_n (pc := 29) (k0 := 0) E dX12_act_29 rfl rfl ?_
        refine z_iload_n (pc := 30) (k0 := 1) E dX12_act_30 rfl rfl ?_
        refine z_iload_n (pc := 31) (k0 := 3) E dX12_act_31 rfl rfl ?_
        obtain ⟨r16, SM_17, h18, hf⟩ := kD_e hf
        refine z_callV0 (pc := 32) (is := [0]) (n := 2) (As := [.int a1, .int a3]) (st := []) (st' := [.int r16]) (C2 := [wM aM ct SM_17]) E (c_X12_hearsAct (l := l) (G := G) (ct := ct) (aM := aM) h18) wv_X12_hearsAct wd_48_23 ⟨Nat.le_of_ble_eq_true rfl, Nat.le_of_ble_eq_true rfl, Nat.le_of_ble_eq_true rfl, Nat.le_of_ble_eq_true rfl⟩ rfl rfl rfl (by decide) rfl rfl (zrM (j := 0) rfl) rfl (Nat.le_of_ble_eq_true rfl) dX12_act_32 rfl rfl ?_
        refine z_goto (pc := 35) (tgt := 58) E dX12_act_35 (by decide) ?_
        cases hf
        exact z_iret E hr dX12_act_58
    · have hf := kB_t hf c7
      refine z_iconst (pc := 23) (v := 0) E dX12_act_23 (by decide) ?_
      cases hf
      exact z_iret E hr dX12_act_24
