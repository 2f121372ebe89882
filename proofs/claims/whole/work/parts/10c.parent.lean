def rm_X11_parent : Room := { frames := 6, cells := 1, slots := 4, locals := 160 }
set_option maxHeartbeats 8000000 in
set_option maxRecDepth 100000 in
theorem c_X11_parent_r0 {l : Launch} {G : va_G} {ct : Nat → ClassId} {aX aN aK aT aR aV : Nat → Nat} {gG gY gZ : Nat} {SX : zRS} {SN : zHS} {SD : List (Nat × zPS)} {a1 a2 : Int32} (h1 : a1 < 0) : zCX (fun _ _ => True) l yX11_parent cX11_parent 5 (some .int) rm_X11_parent G ct [.ref (aX 200), .int a1, .int a2] [wX aX (aN 200) (aK 200) (aT 200) (aR 200) (aV 6) gG gY gZ ct SX, wH aN ct SN, wDp gG SD] (fun v C1 => v = some (.int (-1)) ∧ C1 = [wX aX (aN 200) (aK 200) (aT 200) (aR 200) (aV 6) gG gY gZ ct SX, wH aN ct SN, wDp gG SD]) 1 (4) := by
  refine z_enterX (own := RX11) (lv := [(0, .ref (aX 200)), (1, .int a1), (2, .int a2)]) (by decide) rfl (Nat.le_of_ble_eq_true rfl) rfl ?_
  intro p e s m args below meth c A E hr hnm hnest
  refine z_iload_n (pc := 0) (k0 := 1) E dX11_parent_0 rfl rfl ?_
  refine z_if_lt (pc := 1) (tgt := 10) E dX11_parent_1 (by decide) (fun _ => ?_) (fun cc => absurd h1 cc)
  refine z_iconst (pc := 10) (v := (-1)) E dX11_parent_10 (by decide) ?_
  refine z_more (c2 := 1) (s2 := 4) (Nat.le_of_ble_eq_true rfl) (Nat.le_of_ble_eq_true rfl) ?_
  exact z_iretX E hr ⟨rfl, rfl⟩ dX11_parent_11
set_option maxHeartbeats 8000000 in
set_option maxRecDepth 100000 in
theorem c_X11_parent_r1 {l : Launch} {G : va_G} {ct : Nat → ClassId} {aX aN aK aT aR aV : Nat → Nat} {gG gY gZ : Nat} {SX : zRS} {SN : zHS} {SD : List (Nat × zPS)} {a1 a2 : Int32} (h1 : ¬ a1 < 0) (h2 : ¬ a1 < 7) : zCX (fun _ _ => True) l yX11_parent cX11_parent 5 (some .int) rm_X11_parent G ct [.ref (aX 200), .int a1, .int a2] [wX aX (aN 200) (aK 200) (aT 200) (aR 200) (aV 6) gG gY gZ ct SX, wH aN ct SN, wDp gG SD] (fun v C1 => v = some (.int (-1)) ∧ C1 = [wX aX (aN 200) (aK 200) (aT 200) (aR 200) (aV 6) gG gY gZ ct SX, wH aN ct SN, wDp gG SD]) 1 (4) := by
  refine z_enterX (own := RX11) (lv := [(0, .ref (aX 200)), (1, .int a1), (2, .int a2)]) (by decide) rfl (Nat.le_of_ble_eq_true rfl) rfl ?_
  intro p e s m args below meth c A E hr hnm hnest
  refine z_iload_n (pc := 0) (k0 := 1) E dX11_parent_0 rfl rfl ?_
  refine z_if_lt (pc := 1) (tgt := 10) E dX11_parent_1 (by decide) (fun cc => absurd cc h1) (fun _ => ?_)
  refine z_iload_n (pc := 4) (k0 := 1) E dX11_parent_4 rfl rfl ?_
  refine z_bipush (pc := 5) (v := 7) E dX11_parent_5 (by decide) ?_
  refine z_icmp_lt (pc := 7) (tgt := 12) E dX11_parent_7 (by decide) (fun cc => absurd cc h2) (fun _ => ?_)
  refine z_iconst (pc := 10) (v := (-1)) E dX11_parent_10 (by decide) ?_
  refine z_more (c2 := 1) (s2 := 4) (Nat.le_of_ble_eq_true rfl) (Nat.le_of_ble_eq_true rfl) ?_
  exact z_iretX E hr ⟨rfl, rfl⟩ dX11_parent_11
set_option maxHeartbeats 8000000 in
set_option maxRecDepth 100000 in
theorem c_X11_parent_r2 {l : Launch} {G : va_G} {ct : Nat → ClassId} {aX aN aK aT aR aV : Nat → Nat} {gG gY gZ : Nat} {SX : zRS} {SN : zHS} {SD : List (Nat × zPS)} {a1 a2 : Int32} (h1 : ¬ a1 < 0) (h2 : a1 < 7) (h3 : a2 < 0) : zCX (fun _ _ => True) l yX11_parent cX11_parent 5 (some .int) rm_X11_parent G ct [.ref (aX 200), .int a1, .int a2] [wX aX (aN 200) (aK 200) (aT 200) (aR 200) (aV 6) gG gY gZ ct SX, wH aN ct SN, wDp gG SD] (fun v C1 => v = some (.int (-2)) ∧ C1 = [wX aX (aN 200) (aK 200) (aT 200) (aR 200) (aV 6) gG gY gZ ct SX, wH aN ct SN, wDp gG SD]) 1 (4) := by
  refine z_enterX (own := RX11) (lv := [(0, .ref (aX 200)), (1, .int a1), (2, .int a2)]) (by decide) rfl (Nat.le_of_ble_eq_true rfl) rfl ?_
  intro p e s m args below meth c A E hr hnm hnest
  refine z_iload_n (pc := 0) (k0 := 1) E dX11_parent_0 rfl rfl ?_
  refine z_if_lt (pc := 1) (tgt := 10) E dX11_parent_1 (by decide) (fun cc => absurd cc h1) (fun _ => ?_)
  refine z_iload_n (pc := 4) (k0 := 1) E dX11_parent_4 rfl rfl ?_
  refine z_bipush (pc := 5) (v := 7) E dX11_parent_5 (by decide) ?_
  refine z_icmp_lt (pc := 7) (tgt := 12) E dX11_parent_7 (by decide) (fun _ => ?_) (fun cc => absurd h2 cc)
  refine z_iload_n (pc := 12) (k0 := 2) E dX11_parent_12 rfl rfl ?_
  refine z_if_lt (pc := 13) (tgt := 22) E dX11_parent_13 (by decide) (fun _ => ?_) (fun cc => absurd h3 cc)
  refine z_bipush (pc := 22) (v := (-2)) E dX11_parent_22 (by decide) ?_
  refine z_more (c2 := 1) (s2 := 4) (Nat.le_of_ble_eq_true rfl) (Nat.le_of_ble_eq_true rfl) ?_
  exact z_iretX E hr ⟨rfl, rfl⟩ dX11_parent_24
set_option maxHeartbeats 8000000 in
set_option maxRecDepth 100000 in
theorem c_X11_parent_r3 {l : Launch} {G : va_G} {ct : Nat → ClassId} {aX aN aK aT aR aV : Nat → Nat} {gG gY gZ : Nat} {SX : zRS} {SN : zHS} {SD : List (Nat × zPS)} {a1 a2 : Int32} (h1 : ¬ a1 < 0) (h2 : a1 < 7) (h3 : ¬ a2 < 0) (h4 : ¬ a2 ≤ 9) : zCX (fun _ _ => True) l yX11_parent cX11_parent 5 (some .int) rm_X11_parent G ct [.ref (aX 200), .int a1, .int a2] [wX aX (aN 200) (aK 200) (aT 200) (aR 200) (aV 6) gG gY gZ ct SX, wH aN ct SN, wDp gG SD] (fun v C1 => v = some (.int (-2)) ∧ C1 = [wX aX (aN 200) (aK 200) (aT 200) (aR 200) (aV 6) gG gY gZ ct SX, wH aN ct SN, wDp gG SD]) 1 (4) := by
  refine z_enterX (own := RX11) (lv := [(0, .ref (aX 200)), (1, .int a1), (2, .int a2)]) (by decide) rfl (Nat.le_of_ble_eq_true rfl) rfl ?_
  intro p e s m args below meth c A E hr hnm hnest
  refine z_iload_n (pc := 0) (k0 := 1) E dX11_parent_0 rfl rfl ?_
  refine z_if_lt (pc := 1) (tgt := 10) E dX11_parent_1 (by decide) (fun cc => absurd cc h1) (fun _ => ?_)
  refine z_iload_n (pc := 4) (k0 := 1) E dX11_parent_4 rfl rfl ?_
  refine z_bipush (pc := 5) (v := 7) E dX11_parent_5 (by decide) ?_
  refine z_icmp_lt (pc := 7) (tgt := 12) E dX11_parent_7 (by decide) (fun _ => ?_) (fun cc => absurd h2 cc)
  refine z_iload_n (pc := 12) (k0 := 2) E dX11_parent_12 rfl rfl ?_
  refine z_if_lt (pc := 13) (tgt := 22) E dX11_parent_13 (by decide) (fun cc => absurd cc h3) (fun _ => ?_)
  refine z_iload_n (pc := 16) (k0 := 2) E dX11_parent_16 rfl rfl ?_
  refine z_bipush (pc := 17) (v := 9) E dX11_parent_17 (by decide) ?_
  refine z_icmp_le (pc := 19) (tgt := 25) E dX11_parent_19 (by decide) (fun cc => absurd cc h4) (fun _ => ?_)
  refine z_bipush (pc := 22) (v := (-2)) E dX11_parent_22 (by decide) ?_
  refine z_more (c2 := 1) (s2 := 4) (Nat.le_of_ble_eq_true rfl) (Nat.le_of_ble_eq_true rfl) ?_
  exact z_iretX E hr ⟨rfl, rfl⟩ dX11_parent_24
set_option maxHeartbeats 8000000 in
set_option maxRecDepth 100000 in
theorem c_X11_parent_r4 {l : Launch} {G : va_G} {ct : Nat → ClassId} {aX aN aK aT aR aV : Nat → Nat} {gG gY gZ : Nat} {SX : zRS} {SN : zHS} {SD : List (Nat × zPS)} {a1 a2 : Int32} (h1 : ¬ a1 < 0) (h2 : a1 < 7) (h3 : ¬ a2 < 0) (h4 : a2 ≤ 9) (h5 : ¬ SN.1 8 < 4) : zCX (fun _ _ => True) l yX11_parent cX11_parent 5 (some .int) rm_X11_parent G ct [.ref (aX 200), .int a1, .int a2] [wX aX (aN 200) (aK 200) (aT 200) (aR 200) (aV 6) gG gY gZ ct SX, wH aN ct SN, wDp gG SD] (fun v C1 => v = some (.int (-4)) ∧ C1 = [wX aX (aN 200) (aK 200) (aT 200) (aR 200) (aV 6) gG gY gZ ct SX, wH aN ct SN, wDp gG SD]) 1 (4) := by
  refine z_enterX (own := RX11) (lv := [(0, .ref (aX 200)), (1, .int a1), (2, .int a2)]) (by decide) rfl (Nat.le_of_ble_eq_true rfl) rfl ?_
  intro p e s m args below meth c A E hr hnm hnest
  refine z_iload_n (pc := 0) (k0 := 1) E dX11_parent_0 rfl rfl ?_
  refine z_if_lt (pc := 1) (tgt := 10) E dX11_parent_1 (by decide) (fun cc => absurd cc h1) (fun _ => ?_)
  refine z_iload_n (pc := 4) (k0 := 1) E dX11_parent_4 rfl rfl ?_
  refine z_bipush (pc := 5) (v := 7) E dX11_parent_5 (by decide) ?_
  refine z_icmp_lt (pc := 7) (tgt := 12) E dX11_parent_7 (by decide) (fun _ => ?_) (fun cc => absurd h2 cc)
  refine z_iload_n (pc := 12) (k0 := 2) E dX11_parent_12 rfl rfl ?_
  refine z_if_lt (pc := 13) (tgt := 22) E dX11_parent_13 (by decide) (fun cc => absurd cc h3) (fun _ => ?_)
  refine z_iload_n (pc := 16) (k0 := 2) E dX11_parent_16 rfl rfl ?_
  refine z_bipush (pc := 17) (v := 9) E dX11_parent_17 (by decide) ?_
  refine z_icmp_le (pc := 19) (tgt := 25) E dX11_parent_19 (by decide) (fun _ => ?_) (fun cc => absurd h4 cc)
  refine z_aload_n (pc := 25) (k0 := 0) E dX11_parent_25 rfl rfl ?_
  refine gX_0 (pc := 26) (i := 0) E rfl wd_1_16 dX11_parent_26 ?_
  refine gH_8 (pc := 29) (i := 1) E rfl wd_7_19 dX11_parent_29 ?_
  refine z_iconst (pc := 32) (v := 4) E dX11_parent_32 (by decide) ?_
  refine z_icmp_lt (pc := 33) (tgt := 39) E dX11_parent_33 (by decide) (fun cc => absurd cc h5) (fun _ => ?_)
  refine z_bipush (pc := 36) (v := (-4)) E dX11_parent_36 (by decide) ?_
  refine z_more (c2 := 1) (s2 := 4) (Nat.le_of_ble_eq_true rfl) (Nat.le_of_ble_eq_true rfl) ?_
  exact z_iretX E hr ⟨rfl, rfl⟩ dX11_parent_38
def zpb1 (SN : zHS) : zHS := hSI SN 8 ((SN.1 8) + 1)
def zpb2 (SN : zHS) (w : Nat) : zHS := hSP (zpb1 SN) (va_up (zpb1 SN).2.2.1 (SN.1 8).toNatClampNeg (some w))
def zpb3 (SN : zHS) (w : Nat) : zHS := hSA (zpb2 SN w) 4 (upd ((zpb2 SN w).2.1 4) (((4 : Int32) * (SN.1 8)) + 0).toNatClampNeg 1)
def zpb4 (SN : zHS) (w : Nat) : zHS := hSA (zpb3 SN w) 4 (upd ((zpb3 SN w).2.1 4) (((4 : Int32) * (SN.1 8)) + 1).toNatClampNeg 1)
def zpb5 (SN : zHS) (w : Nat) : zHS := hSA (zpb4 SN w) 4 (upd ((zpb4 SN w).2.1 4) (((4 : Int32) * (SN.1 8)) + 2).toNatClampNeg 1)
def zpb6 (SN : zHS) (w : Nat) : zHS := hSA (zpb5 SN w) 4 (upd ((zpb5 SN w).2.1 4) (((4 : Int32) * (SN.1 8)) + 3).toNatClampNeg 1)
set_option maxHeartbeats 8000000 in
set_option maxRecDepth 100000 in
theorem c_X11_parent {l : Launch} {G : va_G} {ct : Nat → ClassId} {aX aN aK aT aR aV : Nat → Nat} {gG gY gZ : Nat} {SX : zRS} {SN : zHS} {SD : List (Nat × zPS)} {a1 a2 : Int32} (hk : a1 = 0 ∨ a1 = 1 ∨ a1 = 2 ∨ a1 = 3 ∨ a1 = 4 ∨ a1 = 5 ∨ a1 = 6) (h1 : ¬ a1 < 0) (h2 : a1 < 7) (h3 : ¬ a2 < 0) (h4 : a2 ≤ 9) (h5 : SN.1 8 < 4) (hb : ¬ ((SN.1 8) < 0 ∨ 4 ≤ (SN.1 8).toNatClampNeg)) (hb0 : ¬ ((((4 : Int32) * (SN.1 8)) + 0) < 0 ∨ 16 ≤ (((4 : Int32) * (SN.1 8)) + 0).toNatClampNeg)) (hb1 : ¬ ((((4 : Int32) * (SN.1 8)) + 1) < 0 ∨ 16 ≤ (((4 : Int32) * (SN.1 8)) + 1).toNatClampNeg)) (hb2 : ¬ ((((4 : Int32) * (SN.1 8)) + 2) < 0 ∨ 16 ≤ (((4 : Int32) * (SN.1 8)) + 2).toNatClampNeg)) (hb3 : ¬ ((((4 : Int32) * (SN.1 8)) + 3) < 0 ∨ 16 ≤ (((4 : Int32) * (SN.1 8)) + 3).toNatClampNeg)) : zCX (fun _ _ => True) l yX11_parent cX11_parent 5 (some .int) rm_X11_parent G ct [.ref (aX 200), .int a1, .int a2] [wX aX (aN 200) (aK 200) (aT 200) (aR 200) (aV 6) gG gY gZ ct SX, wH aN ct SN, wDp gG SD] (fun v C1 => ∃ w : Nat, w ∉ SD.map Prod.fst ∧ v = some (.int (SN.1 8)) ∧ C1 = [wX aX (aN 200) (aK 200) (aT 200) (aR 200) (aV 6) gG gY gZ ct SX, wH aN ct (zpb6 SN w), wDp gG (SD ++ [(w, (a1, SN.1 8, a2))])]) 1 (4) := by
  refine z_enterX (own := RX11) (lv := [(0, .ref (aX 200)), (1, .int a1), (2, .int a2)]) (by decide) rfl (Nat.le_of_ble_eq_true rfl) rfl ?_
  intro p e s m args below meth c A E hr hnm hnest
  refine z_iload_n (pc := 0) (k0 := 1) E dX11_parent_0 rfl rfl ?_
  refine z_if_lt (pc := 1) (tgt := 10) E dX11_parent_1 (by decide) (fun cc => absurd cc h1) (fun _ => ?_)
  refine z_iload_n (pc := 4) (k0 := 1) E dX11_parent_4 rfl rfl ?_
  refine z_bipush (pc := 5) (v := 7) E dX11_parent_5 (by decide) ?_
  refine z_icmp_lt (pc := 7) (tgt := 12) E dX11_parent_7 (by decide) (fun _ => ?_) (fun cc => absurd h2 cc)
  refine z_iload_n (pc := 12) (k0 := 2) E dX11_parent_12 rfl rfl ?_
  refine z_if_lt (pc := 13) (tgt := 22) E dX11_parent_13 (by decide) (fun cc => absurd cc h3) (fun _ => ?_)
  refine z_iload_n (pc := 16) (k0 := 2) E dX11_parent_16 rfl rfl ?_
  refine z_bipush (pc := 17) (v := 9) E dX11_parent_17 (by decide) ?_
  refine z_icmp_le (pc := 19) (tgt := 25) E dX11_parent_19 (by decide) (fun _ => ?_) (fun cc => absurd h4 cc)
  refine z_aload_n (pc := 25) (k0 := 0) E dX11_parent_25 rfl rfl ?_
  refine gX_0 (pc := 26) (i := 0) E rfl wd_1_16 dX11_parent_26 ?_
  refine gH_8 (pc := 29) (i := 1) E rfl wd_7_19 dX11_parent_29 ?_
  refine z_iconst (pc := 32) (v := 4) E dX11_parent_32 (by decide) ?_
  refine z_icmp_lt (pc := 33) (tgt := 39) E dX11_parent_33 (by decide) (fun _ => ?_) (fun cc => absurd h5 cc)
  refine z_aload_n (pc := 39) (k0 := 0) E dX11_parent_39 rfl rfl ?_
  refine gX_0 (pc := 40) (i := 0) E rfl wd_1_16 dX11_parent_40 ?_
  refine z_dup (pc := 43) E dX11_parent_43 rfl ?_
  refine gH_8 (pc := 44) (i := 1) E rfl wd_7_19 dX11_parent_44 ?_
  refine z_dup_x1 (pc := 47) E dX11_parent_47 rfl rfl ?_
  refine z_iconst (pc := 48) (v := 1) E dX11_parent_48 (by decide) ?_
  refine z_iadd (pc := 49) (v := ((SN.1 8) + 1)) E dX11_parent_49 rfl ?_
  refine pH_8 (pc := 50) (i := 1) (S1 := (zpb1 SN)) E rfl rfl wd_7_19 dX11_parent_50 ?_
  show zJ p l e rm_X11_parent s m args below meth c (MQ below (zQX G ct (fun v C1 => ∃ w : Nat, w ∉ SD.map Prod.fst ∧ v = some (.int (SN.1 8)) ∧ C1 = [wX aX (aN 200) (aK 200) (aT 200) (aR 200) (aV 6) gG gY gZ ct SX, wH aN ct (zpb6 SN w), wDp gG (SD ++ [(w, (a1, SN.1 8, a2))])]) A) args s 1 (4) A) A G 5 0 (0) [wX aX (aN 200) (aK 200) (aT 200) (aR 200) (aV 6) gG gY gZ ct SX, wH aN ct (zpb1 SN), wDp gG SD] [(0, .ref (aX 200)), (1, .int a1), (2, .int a2)] 53 [.int (SN.1 8)]
  refine z_istore_n (pc := 53) (lv' := [(3, .int (SN.1 8)), (0, .ref (aX 200)), (1, .int a1), (2, .int a2)]) E dX11_parent_53 rfl (by decide) rfl ?_
  refine z_aload_n (pc := 54) (k0 := 1) E dX11_parent_54 rfl rfl ?_
  refine gX_0 (pc := 55) (i := 0) E rfl wd_1_16 dX11_parent_55 ?_
  refine gH_3 (pc := 58) (i := 1) E rfl wd_7_20 dX11_parent_58 ?_
  refine z_iload_n (pc := 61) (k0 := 0) E dX11_parent_61 rfl rfl ?_
  refine z_aload_n (pc := 62) (k0 := 1) E dX11_parent_62 rfl rfl ?_
  refine z_iload_n (pc := 63) (k0 := 2) E dX11_parent_63 rfl rfl ?_
  refine z_iload_n (pc := 64) (k0 := 0) E dX11_parent_64 rfl rfl ?_
  refine z_iload_n (pc := 65) (k0 := 3) E dX11_parent_65 rfl rfl ?_
  refine z_callVX (pc := 66) (n := 3) E zBl_tt (fun _ _ _ _ _ _ _ _ => trivial) (As := [.int a1, .int (SN.1 8), .int a2]) (b := (aX 200)) (is := [0, 2]) (st := [.int (SN.1 8), .ref (aN 3)]) (c_X11_born (a1 := a1) (a2 := (SN.1 8)) (a3 := a2) (SX := SX) (SD := SD) (aX := aX) (aN := aN) (aK := aK) (aT := aT) (aR := aR) (aV := aV) (gG := gG) (gY := gY) (gZ := gZ) hk) wv_X11_born wd_7_22 ⟨(Nat.le_of_ble_eq_true rfl), (Nat.le_of_ble_eq_true rfl)⟩ rfl rfl ⟨(Nat.le_of_ble_eq_true rfl), (Nat.le_of_ble_eq_true rfl)⟩ rfl rfl rfl (fun v C1 h => by obtain ⟨_, -, -, e⟩ := h; rw [e]; rfl) (zrX (j := 0) rfl) rfl (Nat.le_of_ble_eq_true rfl) dX11_parent_66 ?_
  rintro _ _ ⟨w, hw, rfl, rfl⟩
  show zJ p l e rm_X11_parent s m args below meth c (MQ below (zQX G ct (fun v C1 => ∃ w : Nat, w ∉ SD.map Prod.fst ∧ v = some (.int (SN.1 8)) ∧ C1 = [wX aX (aN 200) (aK 200) (aT 200) (aR 200) (aV 6) gG gY gZ ct SX, wH aN ct (zpb6 SN w), wDp gG (SD ++ [(w, (a1, SN.1 8, a2))])]) A) args s 1 (4) A) A G 5 1 (4) [wX aX (aN 200) (aK 200) (aT 200) (aR 200) (aV 6) gG gY gZ ct SX, wH aN ct (zpb1 SN), wDp gG (SD ++ [(w, (a1, (SN.1 8), a2))])] [(3, .int (SN.1 8)), (0, .ref (aX 200)), (1, .int a1), (2, .int a2)] 69 [.ref w, .int (SN.1 8), .ref (aN 3)]
  refine sH_3 (pc := 69) (i := 1) (iD := 2) (x := some w) (S1 := (zpb2 SN w)) E rfl rfl (z_pok_app hw) hb rfl dX11_parent_69 ?_
  show zJ p l e rm_X11_parent s m args below meth c (MQ below (zQX G ct (fun v C1 => ∃ w : Nat, w ∉ SD.map Prod.fst ∧ v = some (.int (SN.1 8)) ∧ C1 = [wX aX (aN 200) (aK 200) (aT 200) (aR 200) (aV 6) gG gY gZ ct SX, wH aN ct (zpb6 SN w), wDp gG (SD ++ [(w, (a1, SN.1 8, a2))])]) A) args s 1 (4) A) A G 5 1 (4) [wX aX (aN 200) (aK 200) (aT 200) (aR 200) (aV 6) gG gY gZ ct SX, wH aN ct (zpb2 SN w), wDp gG (SD ++ [(w, (a1, (SN.1 8), a2))])] [(3, .int (SN.1 8)), (0, .ref (aX 200)), (1, .int a1), (2, .int a2)] 70 []
  refine z_iconst (pc := 70) (v := 0) E dX11_parent_70 (by decide) ?_
  refine z_istore (pc := 71) (lv' := [(4, .int 0), (3, .int (SN.1 8)), (0, .ref (aX 200)), (1, .int a1), (2, .int a2)]) E dX11_parent_71 (by decide) rfl ?_
  refine z_iload (pc := 73) (k0 := 0) E dX11_parent_73 rfl ?_
  refine z_iconst (pc := 75) (v := 4) E dX11_parent_75 (by decide) ?_
  refine z_icmp_ge (pc := 76) (tgt := 100) E dX11_parent_76 (by decide) (fun c1 => False.elim (by revert c1; decide)) (fun _ => ?_)
  refine z_aload_n (pc := 79) (k0 := 2) E dX11_parent_79 rfl rfl ?_
  refine gX_0 (pc := 80) (i := 0) E rfl wd_1_16 dX11_parent_80 ?_
  refine gH_4 (pc := 83) (i := 1) E rfl wd_7_21 dX11_parent_83 ?_
  refine z_iconst (pc := 86) (v := 4) E dX11_parent_86 (by decide) ?_
  refine z_iload_n (pc := 87) (k0 := 1) E dX11_parent_87 rfl rfl ?_
  refine z_imul (pc := 88) (v := ((4 : Int32) * (SN.1 8))) E dX11_parent_88 rfl ?_
  refine z_iload (pc := 89) (k0 := 0) E dX11_parent_89 rfl ?_
  refine z_iadd (pc := 91) (v := (((4 : Int32) * (SN.1 8)) + 0)) E dX11_parent_91 rfl ?_
  refine z_iconst (pc := 92) (v := 1) E dX11_parent_92 (by decide) ?_
  refine sH_4 (pc := 93) (i := 1) (S1 := (zpb3 SN w)) E rfl hb0 rfl dX11_parent_93 ?_
  show zJ p l e rm_X11_parent s m args below meth c (MQ below (zQX G ct (fun v C1 => ∃ w : Nat, w ∉ SD.map Prod.fst ∧ v = some (.int (SN.1 8)) ∧ C1 = [wX aX (aN 200) (aK 200) (aT 200) (aR 200) (aV 6) gG gY gZ ct SX, wH aN ct (zpb6 SN w), wDp gG (SD ++ [(w, (a1, SN.1 8, a2))])]) A) args s 1 (4) A) A G 5 1 (4) [wX aX (aN 200) (aK 200) (aT 200) (aR 200) (aV 6) gG gY gZ ct SX, wH aN ct (zpb3 SN w), wDp gG (SD ++ [(w, (a1, (SN.1 8), a2))])] [(4, .int 0), (3, .int (SN.1 8)), (0, .ref (aX 200)), (1, .int a1), (2, .int a2)] 94 []
  refine z_iinc (pc := 94) (k0 := 0) (v := 1) (lv' := [(4, .int 1), (3, .int (SN.1 8)), (0, .ref (aX 200)), (1, .int a1), (2, .int a2)]) E dX11_parent_94 rfl (by decide) (by decide) rfl ?_
  refine z_goto (pc := 97) (tgt := 73) E dX11_parent_97 (by decide) ?_
  refine z_iload (pc := 73) (k0 := 0) E dX11_parent_73 rfl ?_
  refine z_iconst (pc := 75) (v := 4) E dX11_parent_75 (by decide) ?_
  refine z_icmp_ge (pc := 76) (tgt := 100) E dX11_parent_76 (by decide) (fun c2 => False.elim (by revert c2; decide)) (fun _ => ?_)
  refine z_aload_n (pc := 79) (k0 := 2) E dX11_parent_79 rfl rfl ?_
  refine gX_0 (pc := 80) (i := 0) E rfl wd_1_16 dX11_parent_80 ?_
  refine gH_4 (pc := 83) (i := 1) E rfl wd_7_21 dX11_parent_83 ?_
  refine z_iconst (pc := 86) (v := 4) E dX11_parent_86 (by decide) ?_
  refine z_iload_n (pc := 87) (k0 := 1) E dX11_parent_87 rfl rfl ?_
  refine z_imul (pc := 88) (v := ((4 : Int32) * (SN.1 8))) E dX11_parent_88 rfl ?_
  refine z_iload (pc := 89) (k0 := 0) E dX11_parent_89 rfl ?_
  refine z_iadd (pc := 91) (v := (((4 : Int32) * (SN.1 8)) + 1)) E dX11_parent_91 rfl ?_
  refine z_iconst (pc := 92) (v := 1) E dX11_parent_92 (by decide) ?_
  refine sH_4 (pc := 93) (i := 1) (S1 := (zpb4 SN w)) E rfl hb1 rfl dX11_parent_93 ?_
  show zJ p l e rm_X11_parent s m args below meth c (MQ below (zQX G ct (fun v C1 => ∃ w : Nat, w ∉ SD.map Prod.fst ∧ v = some (.int (SN.1 8)) ∧ C1 = [wX aX (aN 200) (aK 200) (aT 200) (aR 200) (aV 6) gG gY gZ ct SX, wH aN ct (zpb6 SN w), wDp gG (SD ++ [(w, (a1, SN.1 8, a2))])]) A) args s 1 (4) A) A G 5 1 (4) [wX aX (aN 200) (aK 200) (aT 200) (aR 200) (aV 6) gG gY gZ ct SX, wH aN ct (zpb4 SN w), wDp gG (SD ++ [(w, (a1, (SN.1 8), a2))])] [(4, .int 1), (3, .int (SN.1 8)), (0, .ref (aX 200)), (1, .int a1), (2, .int a2)] 94 []
  refine z_iinc (pc := 94) (k0 := 0) (v := 2) (lv' := [(4, .int 2), (3, .int (SN.1 8)), (0, .ref (aX 200)), (1, .int a1), (2, .int a2)]) E dX11_parent_94 rfl (by decide) (by decide) rfl ?_
  refine z_goto (pc := 97) (tgt := 73) E dX11_parent_97 (by decide) ?_
  refine z_iload (pc := 73) (k0 := 0) E dX11_parent_73 rfl ?_
  refine z_iconst (pc := 75) (v := 4) E dX11_parent_75 (by decide) ?_
  refine z_icmp_ge (pc := 76) (tgt := 100) E dX11_parent_76 (by decide) (fun c3 => False.elim (by revert c3; decide)) (fun _ => ?_)
  refine z_aload_n (pc := 79) (k0 := 2) E dX11_parent_79 rfl rfl ?_
  refine gX_0 (pc := 80) (i := 0) E rfl wd_1_16 dX11_parent_80 ?_
  refine gH_4 (pc := 83) (i := 1) E rfl wd_7_21 dX11_parent_83 ?_
  refine z_iconst (pc := 86) (v := 4) E dX11_parent_86 (by decide) ?_
  refine z_iload_n (pc := 87) (k0 := 1) E dX11_parent_87 rfl rfl ?_
  refine z_imul (pc := 88) (v := ((4 : Int32) * (SN.1 8))) E dX11_parent_88 rfl ?_
  refine z_iload (pc := 89) (k0 := 0) E dX11_parent_89 rfl ?_
  refine z_iadd (pc := 91) (v := (((4 : Int32) * (SN.1 8)) + 2)) E dX11_parent_91 rfl ?_
  refine z_iconst (pc := 92) (v := 1) E dX11_parent_92 (by decide) ?_
  refine sH_4 (pc := 93) (i := 1) (S1 := (zpb5 SN w)) E rfl hb2 rfl dX11_parent_93 ?_
  show zJ p l e rm_X11_parent s m args below meth c (MQ below (zQX G ct (fun v C1 => ∃ w : Nat, w ∉ SD.map Prod.fst ∧ v = some (.int (SN.1 8)) ∧ C1 = [wX aX (aN 200) (aK 200) (aT 200) (aR 200) (aV 6) gG gY gZ ct SX, wH aN ct (zpb6 SN w), wDp gG (SD ++ [(w, (a1, SN.1 8, a2))])]) A) args s 1 (4) A) A G 5 1 (4) [wX aX (aN 200) (aK 200) (aT 200) (aR 200) (aV 6) gG gY gZ ct SX, wH aN ct (zpb5 SN w), wDp gG (SD ++ [(w, (a1, (SN.1 8), a2))])] [(4, .int 2), (3, .int (SN.1 8)), (0, .ref (aX 200)), (1, .int a1), (2, .int a2)] 94 []
  refine z_iinc (pc := 94) (k0 := 0) (v := 3) (lv' := [(4, .int 3), (3, .int (SN.1 8)), (0, .ref (aX 200)), (1, .int a1), (2, .int a2)]) E dX11_parent_94 rfl (by decide) (by decide) rfl ?_
  refine z_goto (pc := 97) (tgt := 73) E dX11_parent_97 (by decide) ?_
  refine z_iload (pc := 73) (k0 := 0) E dX11_parent_73 rfl ?_
  refine z_iconst (pc := 75) (v := 4) E dX11_parent_75 (by decide) ?_
  refine z_icmp_ge (pc := 76) (tgt := 100) E dX11_parent_76 (by decide) (fun c4 => False.elim (by revert c4; decide)) (fun _ => ?_)
  refine z_aload_n (pc := 79) (k0 := 2) E dX11_parent_79 rfl rfl ?_
  refine gX_0 (pc := 80) (i := 0) E rfl wd_1_16 dX11_parent_80 ?_
  refine gH_4 (pc := 83) (i := 1) E rfl wd_7_21 dX11_parent_83 ?_
  refine z_iconst (pc := 86) (v := 4) E dX11_parent_86 (by decide) ?_
  refine z_iload_n (pc := 87) (k0 := 1) E dX11_parent_87 rfl rfl ?_
  refine z_imul (pc := 88) (v := ((4 : Int32) * (SN.1 8))) E dX11_parent_88 rfl ?_
  refine z_iload (pc := 89) (k0 := 0) E dX11_parent_89 rfl ?_
  refine z_iadd (pc := 91) (v := (((4 : Int32) * (SN.1 8)) + 3)) E dX11_parent_91 rfl ?_
  refine z_iconst (pc := 92) (v := 1) E dX11_parent_92 (by decide) ?_
  refine sH_4 (pc := 93) (i := 1) (S1 := (zpb6 SN w)) E rfl hb3 rfl dX11_parent_93 ?_
  show zJ p l e rm_X11_parent s m args below meth c (MQ below (zQX G ct (fun v C1 => ∃ w : Nat, w ∉ SD.map Prod.fst ∧ v = some (.int (SN.1 8)) ∧ C1 = [wX aX (aN 200) (aK 200) (aT 200) (aR 200) (aV 6) gG gY gZ ct SX, wH aN ct (zpb6 SN w), wDp gG (SD ++ [(w, (a1, SN.1 8, a2))])]) A) args s 1 (4) A) A G 5 1 (4) [wX aX (aN 200) (aK 200) (aT 200) (aR 200) (aV 6) gG gY gZ ct SX, wH aN ct (zpb6 SN w), wDp gG (SD ++ [(w, (a1, (SN.1 8), a2))])] [(4, .int 3), (3, .int (SN.1 8)), (0, .ref (aX 200)), (1, .int a1), (2, .int a2)] 94 []
  refine z_iinc (pc := 94) (k0 := 0) (v := 4) (lv' := [(4, .int 4), (3, .int (SN.1 8)), (0, .ref (aX 200)), (1, .int a1), (2, .int a2)]) E dX11_parent_94 rfl (by decide) (by decide) rfl ?_
  refine z_goto (pc := 97) (tgt := 73) E dX11_parent_97 (by decide) ?_
  refine z_iload (pc := 73) (k0 := 0) E dX11_parent_73 rfl ?_
  refine z_iconst (pc := 75) (v := 4) E dX11_parent_75 (by decide) ?_
  refine z_icmp_ge (pc := 76) (tgt := 100) E dX11_parent_76 (by decide) (fun _ => ?_) (fun c5 => False.elim (by revert c5; decide))
  refine z_iload_n (pc := 100) (k0 := 1) E dX11_parent_100 rfl rfl ?_
  exact z_iretX E hr ⟨w, hw, rfl, rfl⟩ dX11_parent_101
theorem wv_X11_parent : zWV RX11 yX11_parent cX11_parent 5 (some .int) 2 := ⟨wd_7_16, wd_7_17, wd_1_2, wd_7_18, by decide +kernel⟩
