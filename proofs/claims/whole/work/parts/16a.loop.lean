/-! the law's loop -/
section LSL
variable {p : Program} {l : Launch} {e : Env} {s : State} {m : MethodId} {below : List Frame} {meth : Method} {c : Code} {G : va_G} {ct : Nat → ClassId} {adK adV : Nat → Nat} {tA : Nat} {cells slots b L j : Nat} {xs : Nat → Int32} {aX aN aK aT aH aR aV aM : Nat → Nat} {gG gY gZ : Nat} {SX SR : zRS} {SN SK SH : zHS} {ST : zTS} {SV : Nat → Nat → Int64} {SG SY SZ : Nat → Int32} {SD : List (Nat × zPS)} {SE : List ((Nat → Nat) × zQS)} {SM : zMS}
theorem ls_sub6 {L j : Nat} (hL : L ≤ 3072) (hj : j ≤ 4000) : nI L - 6 < nI j ↔ L < j + 6 := by
  have h := pk_sub_toInt (a := L) (b := 6) (by omega) (by omega)
  have e : (nI 6 : Int32) = 6 := rfl
  rw [e] at h
  rw [Int32.lt_iff_toInt_lt, h, nI_toInt (by omega)]
  omega
theorem ls_63 (x : Int32) : ∃ k : Nat, k < 64 ∧ x &&& 63 = nI k := by
  have e : x = nI x.toBitVec.toNat := by
    apply Int32.toBitVec.inj
    show x.toBitVec = BitVec.ofNat 32 x.toBitVec.toNat
    simp
  refine ⟨x.toBitVec.toNat &&& 63, ?_, ?_⟩
  · have := Nat.and_le_right (n := x.toBitVec.toNat) (m := 63)
    omega
  · have e2 : x &&& 63 = nI x.toBitVec.toNat &&& nI 63 := by rw [← e]; rfl
    rw [e2, rb_and]
set_option maxHeartbeats 4000000 in
set_option maxRecDepth 100000 in
theorem lo_loop (E : zE p s m #[Value.ref b] meth c (fun q : Nat => s.heap.size ≤ q) G ct 4 cL_law RL) (hEnv : zEnv adK adV tA (fun q : Nat => s.heap.size ≤ q) s s.heap) (hX : va_X b L xs s s.heap) (hbl : b < s.heap.size) (hL : L ≤ 3072) (KE : ∀ (cells slots : Nat) (Cs : List va_W) (lv : List (Nat × Value)), cells ≤ 600000 → slots ≤ 7302250 → zJ p l e room_1 s m #[Value.ref b] below meth c (lw_Z below #[Value.ref b] s) (fun q : Nat => s.heap.size ≤ q) G 4 cells slots Cs lv 1339 []) : ∀ (n j cells slots : Nat) (SX : zRS) (SN SK : zHS) (ST : zTS) (SH : zHS) (SR : zRS) (SV : Nat → Nat → Int64) (SG SY SZ : Nat → Int32) (SD : List (Nat × zPS)) (SE : List ((Nat → Nat) × zQS)) (SM : zMS), L < j + 6 * n → j ≤ 3078 → cells + 6 * n ≤ 600000 → slots + 141 * n ≤ 7302250 → rbAll SX SN SK SR SV SG SD SE SM → zJ p l e room_1 s m #[Value.ref b] below meth c (lw_Z below #[Value.ref b] s) (fun q : Nat => s.heap.size ≤ q) G 4 cells slots [wX aX (aN 200) (aK 200) (aT 200) (aR 200) (aV 6) gG gY gZ ct SX, wH aN ct SN, wH aK ct SK, wT aT (aH 200) ct ST, wH aH ct SH, wR aR ct SR, wV aV ct SV, wA gG 21 ct SG, wA gY 5 ct SY, wA gZ 5 ct SZ, wDp gG SD, wDh ct SE, wM aM ct SM] [(3, .int (nI j)), (2, .ref (aM 200)), (1, .ref (aX 200)), (0, .ref b)] 18 []
  | 0, j, cells, slots, SX, SN, SK, ST, SH, SR, SV, SG, SY, SZ, SD, SE, SM, hn, hj, hc, hs, hA => by
    have hbA : ¬ (fun q : Nat => s.heap.size ≤ q) b := Nat.not_le.mpr hbl
    refine z_iload_n (pc := 18) (k0 := 0) E dL_law_18 rfl rfl ?_
    refine z_aload_n (pc := 19) (k0 := 3) E dL_law_19 rfl rfl ?_
    refine z_sln (pc := 20) E hX hbl hbA dL_law_20 ?_
    refine z_bipush (pc := 21) (v := 6) E dL_law_21 (by decide) ?_
    refine z_isub (pc := 23) (v := nI L - 6) E dL_law_23 rfl ?_
    refine z_icmp_gt (pc := 24) (tgt := 1339) E dL_law_24 (by decide) (fun _ => ?_) (fun cc => absurd ((ls_sub6 hL (by omega)).mpr (by omega)) cc)
    exact KE _ _ _ _ (by omega) (by omega)
  | n + 1, j, cells, slots, SX, SN, SK, ST, SH, SR, SV, SG, SY, SZ, SD, SE, SM, hn, hj, hc, hs, hA => by
    have hbA : ¬ (fun q : Nat => s.heap.size ≤ q) b := Nat.not_le.mpr hbl
    have ih := lo_loop E hEnv hX hbl hL KE n (j + 6) (cells + 6) (slots + 141)
    have K : ∀ (SX : zRS) (SN SK : zHS) (ST : zTS) (SH : zHS) (SR : zRS) (SV : Nat → Nat → Int64) (SG SY SZ : Nat → Int32) (SD : List (Nat × zPS)) (SE : List ((Nat → Nat) × zQS)) (SM : zMS), j + 6 ≤ L → rbAll SX SN SK SR SV SG SD SE SM → zJ p l e room_1 s m #[Value.ref b] below meth c (lw_Z below #[Value.ref b] s) (fun q : Nat => s.heap.size ≤ q) G 4 (cells + 6) (slots + 141) [wX aX (aN 200) (aK 200) (aT 200) (aR 200) (aV 6) gG gY gZ ct SX, wH aN ct SN, wH aK ct SK, wT aT (aH 200) ct ST, wH aH ct SH, wR aR ct SR, wV aV ct SV, wA gG 21 ct SG, wA gY 5 ct SY, wA gZ 5 ct SZ, wDp gG SD, wDh ct SE, wM aM ct SM] [(3, .int (nI j)), (2, .ref (aM 200)), (1, .ref (aX 200)), (0, .ref b)] 1333 [] := by
      intro SX SN SK ST SH SR SV SG SY SZ SD SE SM hj6 hA
      refine z_iinc (pc := 1333) (k0 := 0) (v := nI (j + 6)) (lv' := [(3, .int (nI (j + 6))), (2, .ref (aM 200)), (1, .ref (aX 200)), (0, .ref b)]) E dL_law_1333 rfl (by rw [show Int32.ofInt 6 = nI 6 from rfl, nI_add]) (by decide) rfl ?_
      refine z_goto (pc := 1336) (tgt := 18) E dL_law_1336 (by decide) ?_
      exact ih SX SN SK ST SH SR SV SG SY SZ SD SE SM (by omega) (by omega) (by omega) (by omega) hA
    refine z_iload_n (pc := 18) (k0 := 0) E dL_law_18 rfl rfl ?_
    refine z_aload_n (pc := 19) (k0 := 3) E dL_law_19 rfl rfl ?_
    refine z_sln (pc := 20) E hX hbl hbA dL_law_20 ?_
    refine z_bipush (pc := 21) (v := 6) E dL_law_21 (by decide) ?_
    refine z_isub (pc := 23) (v := nI L - 6) E dL_law_23 rfl ?_
    refine z_icmp_gt (pc := 24) (tgt := 1339) E dL_law_24 (by decide) (fun _ => KE _ _ _ _ (by omega) (by omega)) (fun cc => ?_)
    have hj6 : j + 6 ≤ L := by
      have h9 : ¬ L < j + 6 := fun h => cc ((ls_sub6 hL (by omega)).mpr h)
      omega
    refine z_aload_n (pc := 27) (k0 := 3) E dL_law_27 rfl rfl ?_
    refine z_iload_n (pc := 28) (k0 := 0) E dL_law_28 rfl rfl ?_
    refine z_sld (pc := 29) E hX hbl hbA (by omega) (by omega) dL_law_29 ?_
    refine z_bipush (pc := 30) (v := 63) E dL_law_30 (by decide) ?_
    refine z_iand (pc := 32) (v := xs j &&& 63) E dL_law_32 rfl ?_
    obtain ⟨k, hk, hx⟩ := ls_63 (xs j)
    by_cases h38 : 37 < k
    · refine z_tswOut (pc := 33) (tgt := 1333) E dL_law_33 (Or.inr (by rw [hx, nI_toInt (by omega)]; omega)) (by decide) ?_
      refine z_more (c2 := cells + 6) (s2 := slots + 141) (by omega) (by omega) ?_
      exact K _ _ _ _ _ _ _ _ _ _ _ _ _ hj6 hA
    · have hk2 : k = 0 ∨ k = 1 ∨ k = 2 ∨ k = 3 ∨ k = 4 ∨ k = 5 ∨ k = 6 ∨ k = 7 ∨ k = 8 ∨ k = 9 ∨ k = 10 ∨ k = 11 ∨ k = 12 ∨ k = 13 ∨ k = 14 ∨ k = 15 ∨ k = 16 ∨ k = 17 ∨ k = 18 ∨ k = 19 ∨ k = 20 ∨ k = 21 ∨ k = 22 ∨ k = 23 ∨ k = 24 ∨ k = 25 ∨ k = 26 ∨ k = 27 ∨ k = 28 ∨ k = 29 ∨ k = 30 ∨ k = 31 ∨ k = 32 ∨ k = 33 ∨ k = 34 ∨ k = 35 ∨ k = 36 ∨ k = 37 := by omega
      rcases hk2 with rfl | rfl | rfl | rfl | rfl | rfl | rfl | rfl | rfl | rfl | rfl | rfl | rfl | rfl | rfl | rfl | rfl | rfl | rfl | rfl | rfl | rfl | rfl | rfl | rfl | rfl | rfl | rfl | rfl | rfl | rfl | rfl | rfl | rfl | rfl | rfl | rfl | rfl
      · refine z_tswIn (pc := 33) (tgt := 200) (v := 0) (n := 0) (off := 167) E dL_law_33 (show xs j &&& 63 = 0 from hx) (by decide) (by decide) (by decide) rfl (by decide) ?_
        exact lo_thing E hEnv hX hbl hbA hL hj6 (by omega) (by omega) hA (fun SX SN SK ST SH SR SV SG SY SZ SD SE SM hZ => K SX SN SK ST SH SR SV SG SY SZ SD SE SM hj6 hZ)
      · refine z_tswIn (pc := 33) (tgt := 233) (v := 1) (n := 1) (off := 200) E dL_law_33 (show xs j &&& 63 = 1 from hx) (by decide) (by decide) (by decide) rfl (by decide) ?_
        exact lo_parent E hEnv hX hbl hbA hL hj6 (by omega) (by omega) hA (fun SX SN SK ST SH SR SV SG SY SZ SD SE SM hZ => K SX SN SK ST SH SR SV SG SY SZ SD SE SM hj6 hZ)
      · refine z_tswIn (pc := 33) (tgt := 266) (v := 2) (n := 2) (off := 233) E dL_law_33 (show xs j &&& 63 = 2 from hx) (by decide) (by decide) (by decide) rfl (by decide) ?_
        exact lo_at E hEnv hX hbl hbA hL hj6 (by omega) (by omega) hA (fun SX SN SK ST SH SR SV SG SY SZ SD SE SM hZ => K SX SN SK ST SH SR SV SG SY SZ SD SE SM hj6 hZ)
      · refine z_tswIn (pc := 33) (tgt := 299) (v := 3) (n := 3) (off := 266) E dL_law_33 (show xs j &&& 63 = 3 from hx) (by decide) (by decide) (by decide) rfl (by decide) ?_
        exact lo_of E hEnv hX hbl hbA hL hj6 (by omega) (by omega) hA (fun SX SN SK ST SH SR SV SG SY SZ SD SE SM hZ => K SX SN SK ST SH SR SV SG SY SZ SD SE SM hj6 hZ)
      · refine z_tswIn (pc := 33) (tgt := 332) (v := 4) (n := 4) (off := 299) E dL_law_33 (show xs j &&& 63 = 4 from hx) (by decide) (by decide) (by decide) rfl (by decide) ?_
        exact lo_habit E hEnv hX hbl hbA hL hj6 (by omega) (by omega) hA (fun SX SN SK ST SH SR SV SG SY SZ SD SE SM hZ => K SX SN SK ST SH SR SV SG SY SZ SD SE SM hj6 hZ)
      · refine z_tswIn (pc := 33) (tgt := 365) (v := 5) (n := 5) (off := 332) E dL_law_33 (show xs j &&& 63 = 5 from hx) (by decide) (by decide) (by decide) rfl (by decide) ?_
        exact lo_row E hEnv hX hbl hbA hL hj6 (by omega) (by omega) hA (fun SX SN SK ST SH SR SV SG SY SZ SD SE SM hZ => K SX SN SK ST SH SR SV SG SY SZ SD SE SM hj6 hZ)
      · refine z_tswIn (pc := 33) (tgt := 408) (v := 6) (n := 6) (off := 375) E dL_law_33 (show xs j &&& 63 = 6 from hx) (by decide) (by decide) (by decide) rfl (by decide) ?_
        exact lo_feed E hEnv hX hbl hbA hL hj6 (by omega) (by omega) hA (fun SX SN SK ST SH SR SV SG SY SZ SD SE SM hZ => K SX SN SK ST SH SR SV SG SY SZ SD SE SM hj6 hZ)
      · refine z_tswIn (pc := 33) (tgt := 431) (v := 7) (n := 7) (off := 398) E dL_law_33 (show xs j &&& 63 = 7 from hx) (by decide) (by decide) (by decide) rfl (by decide) ?_
        exact lo_house E hEnv hX hbl hbA hL hj6 (by omega) (by omega) hA (fun SX SN SK ST SH SR SV SG SY SZ SD SE SM hZ => K SX SN SK ST SH SR SV SG SY SZ SD SE SM hj6 hZ)
      · refine z_tswIn (pc := 33) (tgt := 444) (v := 8) (n := 8) (off := 411) E dL_law_33 (show xs j &&& 63 = 8 from hx) (by decide) (by decide) (by decide) rfl (by decide) ?_
        exact lo_told E hEnv hX hbl hbA hL hj6 (by omega) (by omega) hA (fun SX SN SK ST SH SR SV SG SY SZ SD SE SM hZ => K SX SN SK ST SH SR SV SG SY SZ SD SE SM hj6 hZ)
      · refine z_tswIn (pc := 33) (tgt := 467) (v := 9) (n := 9) (off := 434) E dL_law_33 (show xs j &&& 63 = 9 from hx) (by decide) (by decide) (by decide) rfl (by decide) ?_
        exact lo_ask E hEnv hX hbl hbA hL hj6 (by omega) (by omega) hA (fun SX SN SK ST SH SR SV SG SY SZ SD SE SM hZ => K SX SN SK ST SH SR SV SG SY SZ SD SE SM hj6 hZ)
      · refine z_tswIn (pc := 33) (tgt := 490) (v := 10) (n := 10) (off := 457) E dL_law_33 (show xs j &&& 63 = 10 from hx) (by decide) (by decide) (by decide) rfl (by decide) ?_
        exact lo_night E hEnv hX hbl hbA hL hj6 (by omega) (by omega) hA (fun SX SN SK ST SH SR SV SG SY SZ SD SE SM hZ => K SX SN SK ST SH SR SV SG SY SZ SD SE SM hj6 hZ)
      · refine z_tswIn (pc := 33) (tgt := 503) (v := 11) (n := 11) (off := 470) E dL_law_33 (show xs j &&& 63 = 11 from hx) (by decide) (by decide) (by decide) rfl (by decide) ?_
        exact lo_will E hEnv hX hbl hbA hL hj6 (by omega) (by omega) hA (fun SX SN SK ST SH SR SV SG SY SZ SD SE SM hZ => K SX SN SK ST SH SR SV SG SY SZ SD SE SM hj6 hZ)
      · refine z_tswIn (pc := 33) (tgt := 526) (v := 12) (n := 12) (off := 493) E dL_law_33 (show xs j &&& 63 = 12 from hx) (by decide) (by decide) (by decide) rfl (by decide) ?_
        exact lo_on E hEnv hX hbl hbA hL hj6 (by omega) (by omega) hA (fun SX SN SK ST SH SR SV SG SY SZ SD SE SM hZ => K SX SN SK ST SH SR SV SG SY SZ SD SE SM hj6 hZ)
      · refine z_tswIn (pc := 33) (tgt := 569) (v := 13) (n := 13) (off := 536) E dL_law_33 (show xs j &&& 63 = 13 from hx) (by decide) (by decide) (by decide) rfl (by decide) ?_
        exact lo_with E hEnv hX hbl hbA hL hj6 (by omega) (by omega) hA (fun SX SN SK ST SH SR SV SG SY SZ SD SE SM hZ => K SX SN SK ST SH SR SV SG SY SZ SD SE SM hj6 hZ)
      · refine z_tswIn (pc := 33) (tgt := 592) (v := 14) (n := 14) (off := 559) E dL_law_33 (show xs j &&& 63 = 14 from hx) (by decide) (by decide) (by decide) rfl (by decide) ?_
        exact lo_both E hEnv hX hbl hbA hL hj6 (by omega) (by omega) hA (fun SX SN SK ST SH SR SV SG SY SZ SD SE SM hZ => K SX SN SK ST SH SR SV SG SY SZ SD SE SM hj6 hZ)
      · refine z_tswIn (pc := 33) (tgt := 625) (v := 15) (n := 15) (off := 592) E dL_law_33 (show xs j &&& 63 = 15 from hx) (by decide) (by decide) (by decide) rfl (by decide) ?_
        exact lo_limit E hEnv hX hbl hbA hL hj6 (by omega) (by omega) hA (fun SX SN SK ST SH SR SV SG SY SZ SD SE SM hZ => K SX SN SK ST SH SR SV SG SY SZ SD SE SM hj6 hZ)
      · refine z_tswIn (pc := 33) (tgt := 658) (v := 16) (n := 16) (off := 625) E dL_law_33 (show xs j &&& 63 = 16 from hx) (by decide) (by decide) (by decide) rfl (by decide) ?_
        exact lo_without E hEnv hX hbl hbA hL hj6 (by omega) (by omega) hA (fun SX SN SK ST SH SR SV SG SY SZ SD SE SM hZ => K SX SN SK ST SH SR SV SG SY SZ SD SE SM hj6 hZ)
      · refine z_tswIn (pc := 33) (tgt := 681) (v := 17) (n := 17) (off := 648) E dL_law_33 (show xs j &&& 63 = 17 from hx) (by decide) (by decide) (by decide) rfl (by decide) ?_
        exact lo_order E hEnv hX hbl hbA hL hj6 (by omega) (by omega) hA (fun SX SN SK ST SH SR SV SG SY SZ SD SE SM hZ => K SX SN SK ST SH SR SV SG SY SZ SD SE SM hj6 hZ)
      · refine z_tswIn (pc := 33) (tgt := 714) (v := 18) (n := 18) (off := 681) E dL_law_33 (show xs j &&& 63 = 18 from hx) (by decide) (by decide) (by decide) rfl (by decide) ?_
        exact lo_coupons E hEnv hX hbl hbA hL hj6 (by omega) (by omega) hA (fun SX SN SK ST SH SR SV SG SY SZ SD SE SM hZ => K SX SN SK ST SH SR SV SG SY SZ SD SE SM hj6 hZ)
      · refine z_tswIn (pc := 33) (tgt := 737) (v := 19) (n := 19) (off := 704) E dL_law_33 (show xs j &&& 63 = 19 from hx) (by decide) (by decide) (by decide) rfl (by decide) ?_
        exact lo_evenings E hEnv hX hbl hbA hL hj6 (by omega) (by omega) hA (fun SX SN SK ST SH SR SV SG SY SZ SD SE SM hZ => K SX SN SK ST SH SR SV SG SY SZ SD SE SM hj6 hZ)
      · refine z_tswIn (pc := 33) (tgt := 780) (v := 20) (n := 20) (off := 747) E dL_law_33 (show xs j &&& 63 = 20 from hx) (by decide) (by decide) (by decide) rfl (by decide) ?_
        exact lo_hear E hEnv hX hbl hbA hL hj6 (by omega) (by omega) hA (fun SX SN SK ST SH SR SV SG SY SZ SD SE SM hZ => K SX SN SK ST SH SR SV SG SY SZ SD SE SM hj6 hZ)
      · refine z_tswIn (pc := 33) (tgt := 819) (v := 21) (n := 21) (off := 786) E dL_law_33 (show xs j &&& 63 = 21 from hx) (by decide) (by decide) (by decide) rfl (by decide) ?_
        exact lo_hush E hEnv hX hbl hbA hL hj6 (by omega) (by omega) hA (fun SX SN SK ST SH SR SV SG SY SZ SD SE SM hZ => K SX SN SK ST SH SR SV SG SY SZ SD SE SM hj6 hZ)
      · refine z_tswIn (pc := 33) (tgt := 832) (v := 22) (n := 22) (off := 799) E dL_law_33 (show xs j &&& 63 = 22 from hx) (by decide) (by decide) (by decide) rfl (by decide) ?_
        exact lo_who E hEnv hX hbl hbA hL hj6 (by omega) (by omega) hA (fun SX SN SK ST SH SR SV SG SY SZ SD SE SM hZ => K SX SN SK ST SH SR SV SG SY SZ SD SE SM hj6 hZ)
      · refine z_tswIn (pc := 33) (tgt := 845) (v := 23) (n := 23) (off := 812) E dL_law_33 (show xs j &&& 63 = 23 from hx) (by decide) (by decide) (by decide) rfl (by decide) ?_
        exact lo_odds E hEnv hX hbl hbA hL hj6 (by omega) (by omega) hA (fun SX SN SK ST SH SR SV SG SY SZ SD SE SM hZ => K SX SN SK ST SH SR SV SG SY SZ SD SE SM hj6 hZ)
      · refine z_tswIn (pc := 33) (tgt := 879) (v := 24) (n := 24) (off := 846) E dL_law_33 (show xs j &&& 63 = 24 from hx) (by decide) (by decide) (by decide) rfl (by decide) ?_
        exact lo_mean E hEnv hX hbl hbA hL hj6 (by omega) (by omega) hA (fun SX SN SK ST SH SR SV SG SY SZ SD SE SM hZ => K SX SN SK ST SH SR SV SG SY SZ SD SE SM hj6 hZ)
      · refine z_tswIn (pc := 33) (tgt := 903) (v := 25) (n := 25) (off := 870) E dL_law_33 (show xs j &&& 63 = 25 from hx) (by decide) (by decide) (by decide) rfl (by decide) ?_
        exact lo_book E hEnv hX hbl hbA hL hj6 (by omega) (by omega) hA (fun SX SN SK ST SH SR SV SG SY SZ SD SE SM hZ => K SX SN SK ST SH SR SV SG SY SZ SD SE SM hj6 hZ)
      · refine z_tswIn (pc := 33) (tgt := 926) (v := 26) (n := 26) (off := 893) E dL_law_33 (show xs j &&& 63 = 26 from hx) (by decide) (by decide) (by decide) rfl (by decide) ?_
        exact lo_looked E hEnv hX hbl hbA hL hj6 (by omega) (by omega) hA (fun SX SN SK ST SH SR SV SG SY SZ SD SE SM hZ => K SX SN SK ST SH SR SV SG SY SZ SD SE SM hj6 hZ)
      · refine z_tswIn (pc := 33) (tgt := 939) (v := 27) (n := 27) (off := 906) E dL_law_33 (show xs j &&& 63 = 27 from hx) (by decide) (by decide) (by decide) rfl (by decide) ?_
        exact lo_judge E hEnv hX hbl hbA hL hj6 (by omega) (by omega) hA (fun SX SN SK ST SH SR SV SG SY SZ SD SE SM hZ => K SX SN SK ST SH SR SV SG SY SZ SD SE SM hj6 hZ)
      · refine z_tswIn (pc := 33) (tgt := 972) (v := 28) (n := 28) (off := 939) E dL_law_33 (show xs j &&& 63 = 28 from hx) (by decide) (by decide) (by decide) rfl (by decide) ?_
        exact lo_image E hEnv hX hbl hbA hL hj6 (by omega) (by omega) hA (fun SX SN SK ST SH SR SV SG SY SZ SD SE SM hZ => K SX SN SK ST SH SR SV SG SY SZ SD SE SM hj6 hZ)
      · refine z_tswIn (pc := 33) (tgt := 985) (v := 29) (n := 29) (off := 952) E dL_law_33 (show xs j &&& 63 = 29 from hx) (by decide) (by decide) (by decide) rfl (by decide) ?_
        exact lo_undo E hEnv hX hbl hbA hL hj6 (by omega) (by omega) hA (fun SX SN SK ST SH SR SV SG SY SZ SD SE SM hZ => K SX SN SK ST SH SR SV SG SY SZ SD SE SM hj6 hZ)
      · refine z_tswIn (pc := 33) (tgt := 998) (v := 30) (n := 30) (off := 965) E dL_law_33 (show xs j &&& 63 = 30 from hx) (by decide) (by decide) (by decide) rfl (by decide) ?_
        exact lo_act E hEnv hX hbl hbA hL hj6 (by omega) (by omega) hA (fun SX SN SK ST SH SR SV SG SY SZ SD SE SM hZ => K SX SN SK ST SH SR SV SG SY SZ SD SE SM hj6 hZ)
      · refine z_tswIn (pc := 33) (tgt := 1041) (v := 31) (n := 31) (off := 1008) E dL_law_33 (show xs j &&& 63 = 31 from hx) (by decide) (by decide) (by decide) rfl (by decide) ?_
        exact lo_trace E hEnv hX hbl hbA hL hj6 (by omega) (by omega) hA (fun SX SN SK ST SH SR SV SG SY SZ SD SE SM hZ => K SX SN SK ST SH SR SV SG SY SZ SD SE SM hj6 hZ)
      · refine z_tswIn (pc := 33) (tgt := 1064) (v := 32) (n := 32) (off := 1031) E dL_law_33 (show xs j &&& 63 = 32 from hx) (by decide) (by decide) (by decide) rfl (by decide) ?_
        exact lo_taken E hEnv hX hbl hbA hL hj6 (by omega) (by omega) hA (fun SX SN SK ST SH SR SV SG SY SZ SD SE SM hZ => K SX SN SK ST SH SR SV SG SY SZ SD SE SM hj6 hZ)
      · refine z_tswIn (pc := 33) (tgt := 1097) (v := 33) (n := 33) (off := 1064) E dL_law_33 (show xs j &&& 63 = 33 from hx) (by decide) (by decide) (by decide) rfl (by decide) ?_
        exact lo_count E hEnv hX hbl hbA hL hj6 (by omega) (by omega) hA (fun SX SN SK ST SH SR SV SG SY SZ SD SE SM hZ => K SX SN SK ST SH SR SV SG SY SZ SD SE SM hj6 hZ)
      · refine z_tswIn (pc := 33) (tgt := 1120) (v := 34) (n := 34) (off := 1087) E dL_law_33 (show xs j &&& 63 = 34 from hx) (by decide) (by decide) (by decide) rfl (by decide) ?_
        exact lo_tape E hEnv hX hbl hbA hL hj6 (by omega) (by omega) hA (fun SX SN SK ST SH SR SV SG SY SZ SD SE SM hZ => K SX SN SK ST SH SR SV SG SY SZ SD SE SM hj6 hZ)
      · refine z_tswIn (pc := 33) (tgt := 1163) (v := 35) (n := 35) (off := 1130) E dL_law_33 (show xs j &&& 63 = 35 from hx) (by decide) (by decide) (by decide) rfl (by decide) ?_
        exact lo_item E hEnv hX hbl hbA hL hj6 (by omega) (by omega) hA (fun SX SN SK ST SH SR SV SG SY SZ SD SE SM hZ => K SX SN SK ST SH SR SV SG SY SZ SD SE SM hj6 hZ)
      · refine z_tswIn (pc := 33) (tgt := 1236) (v := 36) (n := 36) (off := 1203) E dL_law_33 (show xs j &&& 63 = 36 from hx) (by decide) (by decide) (by decide) rfl (by decide) ?_
        exact lo_read E hEnv hX hbl hbA hL hj6 (by omega) (by omega) hA (fun SX SN SK ST SH SR SV SG SY SZ SD SE SM hZ => K SX SN SK ST SH SR SV SG SY SZ SD SE SM hj6 hZ)
      · refine z_tswIn (pc := 33) (tgt := 1270) (v := 37) (n := 37) (off := 1237) E dL_law_33 (show xs j &&& 63 = 37 from hx) (by decide) (by decide) (by decide) rfl (by decide) ?_
        exact lo_shift E hEnv hX hbl hbA hL hj6 (by omega) (by omega) hA (fun SX SN SK ST SH SR SV SG SY SZ SD SE SM hZ => K SX SN SK ST SH SR SV SG SY SZ SD SE SM hj6 hZ)
end LSL
