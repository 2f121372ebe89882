theorem z_plook_app {w : Nat} {v : zPS} : ∀ {L : List (Nat × zPS)}, w ∉ L.map Prod.fst → plook (L ++ [(w, v)]) w = some v
  | [], _ => by simp [plook]
  | x :: L, h => by
    have h1 : ¬ x.1 = w := fun e => h (by simp [e])
    have h2 : w ∉ L.map Prod.fst := fun q => h (List.mem_cons_of_mem _ q)
    show (if x.1 = w then some x.2 else plook (L ++ [(w, v)]) w) = some v
    rw [if_neg h1]
    exact z_plook_app h2
theorem z_pok_app {w : Nat} {v : zPS} {L : List (Nat × zPS)} (h : w ∉ L.map Prod.fst) : pok (L ++ [(w, v)]) (some w) = true := by
  show (plook (L ++ [(w, v)]) w).isSome = true
  rw [z_plook_app h]
  rfl
def rm_X11_born : Room := { frames := 4, cells := 1, slots := 4, locals := 112 }
set_option maxHeartbeats 8000000 in
set_option maxRecDepth 100000 in
theorem c_X11_born_0 {l : Launch} {G : va_G} {ct : Nat → ClassId} {aX aN aK aT aR aV : Nat → Nat} {gG gY gZ : Nat} {SX : zRS} {SD : List (Nat × zPS)} {a2 a3 : Int32}  : zCX (fun _ _ => True) l yX11_born cX11_born 4 (some (.object "MoreStory$Parent")) rm_X11_born G ct [.ref (aX 200), .int 0, .int a2, .int a3] [wX aX (aN 200) (aK 200) (aT 200) (aR 200) (aV 6) gG gY gZ ct SX, wDp gG SD] (fun v C1 => ∃ w : Nat, w ∉ SD.map Prod.fst ∧ v = some (.ref w) ∧ C1 = [wX aX (aN 200) (aK 200) (aT 200) (aR 200) (aV 6) gG gY gZ ct SX, wDp gG (SD ++ [(w, (0, a2, a3))])]) 1 (4) := by
  refine z_enterX (own := RX11) (lv := [(0, .ref (aX 200)), (1, .int 0), (2, .int a2), (3, .int a3)]) (by decide) rfl (Nat.le_of_ble_eq_true rfl) rfl ?_
  intro p e s m args below meth c A E hr hnm hnest
  refine z_iload_n (pc := 0) (k0 := 1) E dX11_born_0 rfl rfl ?_
  refine z_tswOut (pc := 1) (tgt := 130) E dX11_born_1 (by decide) (by decide) ?_
  refine z_new (pc := 130) (C := RX4) (ci := 4) (fs := [.int 0, .int 0, .int 0, .null]) E inlX4 tyX4 tyX4_ok wd_8_20 wd_8_21 wd_8_22 rfl (by decide +kernel) (Nat.le_of_ble_eq_true rfl) (Nat.le_of_ble_eq_true rfl) dX11_born_130 (fun w1 => ?_)
  show zJ p l e rm_X11_born s m args below meth c (MQ below (zQX G ct (fun v C1 => ∃ w : Nat, w ∉ SD.map Prod.fst ∧ v = some (.ref w) ∧ C1 = [wX aX (aN 200) (aK 200) (aT 200) (aR 200) (aV 6) gG gY gZ ct SX, wDp gG (SD ++ [(w, (0, a2, a3))])]) A) args s 1 (4) A) A G 4 1 (4) [wX aX (aN 200) (aK 200) (aT 200) (aR 200) (aV 6) gG gY gZ ct SX, wDp gG SD, [(w1, .inr (4, [.int 0, .int 0, .int 0, .null]))]] [(0, .ref (aX 200)), (1, .int 0), (2, .int a2), (3, .int a3)] 133 [.ref w1]
  refine z_dup (pc := 133) E dX11_born_133 rfl ?_
  refine z_iload_n (pc := 134) (k0 := 1) E dX11_born_134 rfl rfl ?_
  refine z_iload_n (pc := 135) (k0 := 2) E dX11_born_135 rfl rfl ?_
  refine z_iload_n (pc := 136) (k0 := 3) E dX11_born_136 rfl rfl ?_
  refine z_aload_n (pc := 137) (k0 := 0) E dX11_born_137 rfl rfl ?_
  refine gX_7 (pc := 138) (i := 0) E rfl wd_2_8 dX11_born_138 ?_
  refine z_callI (pc := 141) E zBl_tt (fun _ _ _ => trivial) (n := 4) (As := [.int 0, .int a2, .int a3, .ref gG]) (b := w1) (is := [2]) (st := [.ref w1]) (c_X4_init (q := w1) (gG := gG) (a1 := 0) (a2 := a2) (a3 := a3)) wd_8_22 wd_10_6 wd_9_3 wd_9_4 rfl (by decide) ⟨(Nat.le_of_ble_eq_true rfl), (Nat.le_of_ble_eq_true rfl)⟩ rfl rfl ⟨(Nat.le_of_ble_eq_true rfl), (Nat.le_of_ble_eq_true rfl)⟩ rfl rfl rfl (fun v C1 h => by rw [h.2]; rfl) rfl (Nat.le_of_ble_eq_true rfl) dX11_born_141 ?_
  rintro _ _ ⟨rfl, rfl⟩
  show zJ p l e rm_X11_born s m args below meth c (MQ below (zQX G ct (fun v C1 => ∃ w : Nat, w ∉ SD.map Prod.fst ∧ v = some (.ref w) ∧ C1 = [wX aX (aN 200) (aK 200) (aT 200) (aR 200) (aV 6) gG gY gZ ct SX, wDp gG (SD ++ [(w, (0, a2, a3))])]) A) args s 1 (4) A) A G 4 1 (4) [wX aX (aN 200) (aK 200) (aT 200) (aR 200) (aV 6) gG gY gZ ct SX, wDp gG SD, [(w1, .inr (4, [.int 0, .int a2, .int a3, .ref gG]))]] [(0, .ref (aX 200)), (1, .int 0), (2, .int a2), (3, .int a3)] 144 [.ref w1]
  refine z_freshD (i := 1) (j := 2) rfl rfl rfl (fun hw => ?_)
  refine z_world (Cs' := [wX aX (aN 200) (aK 200) (aT 200) (aR 200) (aV 6) gG gY gZ ct SX, wDp gG (SD ++ [(w1, (0, a2, a3))])]) (by simp [zfl, wDp, wPa, pcls]) ?_
  exact z_aretX E hr ⟨w1, hw, rfl, rfl⟩ dX11_born_144
set_option maxHeartbeats 8000000 in
set_option maxRecDepth 100000 in
theorem c_X11_born_1 {l : Launch} {G : va_G} {ct : Nat → ClassId} {aX aN aK aT aR aV : Nat → Nat} {gG gY gZ : Nat} {SX : zRS} {SD : List (Nat × zPS)} {a2 a3 : Int32}  : zCX (fun _ _ => True) l yX11_born cX11_born 4 (some (.object "MoreStory$Parent")) rm_X11_born G ct [.ref (aX 200), .int 1, .int a2, .int a3] [wX aX (aN 200) (aK 200) (aT 200) (aR 200) (aV 6) gG gY gZ ct SX, wDp gG SD] (fun v C1 => ∃ w : Nat, w ∉ SD.map Prod.fst ∧ v = some (.ref w) ∧ C1 = [wX aX (aN 200) (aK 200) (aT 200) (aR 200) (aV 6) gG gY gZ ct SX, wDp gG (SD ++ [(w, (1, a2, a3))])]) 1 (4) := by
  refine z_enterX (own := RX11) (lv := [(0, .ref (aX 200)), (1, .int 1), (2, .int a2), (3, .int a3)]) (by decide) rfl (Nat.le_of_ble_eq_true rfl) rfl ?_
  intro p e s m args below meth c A E hr hnm hnest
  refine z_iload_n (pc := 0) (k0 := 1) E dX11_born_0 rfl rfl ?_
  refine z_tswIn (pc := 1) (tgt := 40) (v := 1) (n := 1) (off := 39) E dX11_born_1 rfl (by decide) (by decide) (by decide) rfl (by decide) ?_
  refine z_new (pc := 40) (C := RX6) (ci := 6) (fs := [.int 0, .int 0, .int 0, .null]) E inlX6 tyX6 tyX6_ok wd_8_2 wd_8_3 wd_8_4 rfl (by decide +kernel) (Nat.le_of_ble_eq_true rfl) (Nat.le_of_ble_eq_true rfl) dX11_born_40 (fun w1 => ?_)
  show zJ p l e rm_X11_born s m args below meth c (MQ below (zQX G ct (fun v C1 => ∃ w : Nat, w ∉ SD.map Prod.fst ∧ v = some (.ref w) ∧ C1 = [wX aX (aN 200) (aK 200) (aT 200) (aR 200) (aV 6) gG gY gZ ct SX, wDp gG (SD ++ [(w, (1, a2, a3))])]) A) args s 1 (4) A) A G 4 1 (4) [wX aX (aN 200) (aK 200) (aT 200) (aR 200) (aV 6) gG gY gZ ct SX, wDp gG SD, [(w1, .inr (6, [.int 0, .int 0, .int 0, .null]))]] [(0, .ref (aX 200)), (1, .int 1), (2, .int a2), (3, .int a3)] 43 [.ref w1]
  refine z_dup (pc := 43) E dX11_born_43 rfl ?_
  refine z_iload_n (pc := 44) (k0 := 1) E dX11_born_44 rfl rfl ?_
  refine z_iload_n (pc := 45) (k0 := 2) E dX11_born_45 rfl rfl ?_
  refine z_iload_n (pc := 46) (k0 := 3) E dX11_born_46 rfl rfl ?_
  refine z_aload_n (pc := 47) (k0 := 0) E dX11_born_47 rfl rfl ?_
  refine gX_7 (pc := 48) (i := 0) E rfl wd_2_8 dX11_born_48 ?_
  refine z_callI (pc := 51) E zBl_tt (fun _ _ _ => trivial) (n := 4) (As := [.int 1, .int a2, .int a3, .ref gG]) (b := w1) (is := [2]) (st := [.ref w1]) (c_X6_init (q := w1) (gG := gG) (a1 := 1) (a2 := a2) (a3 := a3)) wd_8_4 wd_8_23 wd_9_0 wd_9_1 rfl (by decide) ⟨(Nat.le_of_ble_eq_true rfl), (Nat.le_of_ble_eq_true rfl)⟩ rfl rfl ⟨(Nat.le_of_ble_eq_true rfl), (Nat.le_of_ble_eq_true rfl)⟩ rfl rfl rfl (fun v C1 h => by rw [h.2]; rfl) rfl (Nat.le_of_ble_eq_true rfl) dX11_born_51 ?_
  rintro _ _ ⟨rfl, rfl⟩
  show zJ p l e rm_X11_born s m args below meth c (MQ below (zQX G ct (fun v C1 => ∃ w : Nat, w ∉ SD.map Prod.fst ∧ v = some (.ref w) ∧ C1 = [wX aX (aN 200) (aK 200) (aT 200) (aR 200) (aV 6) gG gY gZ ct SX, wDp gG (SD ++ [(w, (1, a2, a3))])]) A) args s 1 (4) A) A G 4 1 (4) [wX aX (aN 200) (aK 200) (aT 200) (aR 200) (aV 6) gG gY gZ ct SX, wDp gG SD, [(w1, .inr (6, [.int 1, .int a2, .int a3, .ref gG]))]] [(0, .ref (aX 200)), (1, .int 1), (2, .int a2), (3, .int a3)] 54 [.ref w1]
  refine z_freshD (i := 1) (j := 2) rfl rfl rfl (fun hw => ?_)
  refine z_world (Cs' := [wX aX (aN 200) (aK 200) (aT 200) (aR 200) (aV 6) gG gY gZ ct SX, wDp gG (SD ++ [(w1, (1, a2, a3))])]) (by simp [zfl, wDp, wPa, pcls]) ?_
  exact z_aretX E hr ⟨w1, hw, rfl, rfl⟩ dX11_born_54
set_option maxHeartbeats 8000000 in
set_option maxRecDepth 100000 in
theorem c_X11_born_2 {l : Launch} {G : va_G} {ct : Nat → ClassId} {aX aN aK aT aR aV : Nat → Nat} {gG gY gZ : Nat} {SX : zRS} {SD : List (Nat × zPS)} {a2 a3 : Int32}  : zCX (fun _ _ => True) l yX11_born cX11_born 4 (some (.object "MoreStory$Parent")) rm_X11_born G ct [.ref (aX 200), .int 2, .int a2, .int a3] [wX aX (aN 200) (aK 200) (aT 200) (aR 200) (aV 6) gG gY gZ ct SX, wDp gG SD] (fun v C1 => ∃ w : Nat, w ∉ SD.map Prod.fst ∧ v = some (.ref w) ∧ C1 = [wX aX (aN 200) (aK 200) (aT 200) (aR 200) (aV 6) gG gY gZ ct SX, wDp gG (SD ++ [(w, (2, a2, a3))])]) 1 (4) := by
  refine z_enterX (own := RX11) (lv := [(0, .ref (aX 200)), (1, .int 2), (2, .int a2), (3, .int a3)]) (by decide) rfl (Nat.le_of_ble_eq_true rfl) rfl ?_
  intro p e s m args below meth c A E hr hnm hnest
  refine z_iload_n (pc := 0) (k0 := 1) E dX11_born_0 rfl rfl ?_
  refine z_tswIn (pc := 1) (tgt := 55) (v := 2) (n := 2) (off := 54) E dX11_born_1 rfl (by decide) (by decide) (by decide) rfl (by decide) ?_
  refine z_new (pc := 55) (C := RX7) (ci := 7) (fs := [.int 0, .int 0, .int 0, .null]) E inlX7 tyX7 tyX7_ok wd_8_5 wd_8_6 wd_8_7 rfl (by decide +kernel) (Nat.le_of_ble_eq_true rfl) (Nat.le_of_ble_eq_true rfl) dX11_born_55 (fun w1 => ?_)
  show zJ p l e rm_X11_born s m args below meth c (MQ below (zQX G ct (fun v C1 => ∃ w : Nat, w ∉ SD.map Prod.fst ∧ v = some (.ref w) ∧ C1 = [wX aX (aN 200) (aK 200) (aT 200) (aR 200) (aV 6) gG gY gZ ct SX, wDp gG (SD ++ [(w, (2, a2, a3))])]) A) args s 1 (4) A) A G 4 1 (4) [wX aX (aN 200) (aK 200) (aT 200) (aR 200) (aV 6) gG gY gZ ct SX, wDp gG SD, [(w1, .inr (7, [.int 0, .int 0, .int 0, .null]))]] [(0, .ref (aX 200)), (1, .int 2), (2, .int a2), (3, .int a3)] 58 [.ref w1]
  refine z_dup (pc := 58) E dX11_born_58 rfl ?_
  refine z_iload_n (pc := 59) (k0 := 1) E dX11_born_59 rfl rfl ?_
  refine z_iload_n (pc := 60) (k0 := 2) E dX11_born_60 rfl rfl ?_
  refine z_iload_n (pc := 61) (k0 := 3) E dX11_born_61 rfl rfl ?_
  refine z_aload_n (pc := 62) (k0 := 0) E dX11_born_62 rfl rfl ?_
  refine gX_7 (pc := 63) (i := 0) E rfl wd_2_8 dX11_born_63 ?_
  refine z_callI (pc := 66) E zBl_tt (fun _ _ _ => trivial) (n := 4) (As := [.int 2, .int a2, .int a3, .ref gG]) (b := w1) (is := [2]) (st := [.ref w1]) (c_X7_init (q := w1) (gG := gG) (a1 := 2) (a2 := a2) (a3 := a3)) wd_8_7 wd_9_10 wd_9_11 wd_9_12 rfl (by decide) ⟨(Nat.le_of_ble_eq_true rfl), (Nat.le_of_ble_eq_true rfl)⟩ rfl rfl ⟨(Nat.le_of_ble_eq_true rfl), (Nat.le_of_ble_eq_true rfl)⟩ rfl rfl rfl (fun v C1 h => by rw [h.2]; rfl) rfl (Nat.le_of_ble_eq_true rfl) dX11_born_66 ?_
  rintro _ _ ⟨rfl, rfl⟩
  show zJ p l e rm_X11_born s m args below meth c (MQ below (zQX G ct (fun v C1 => ∃ w : Nat, w ∉ SD.map Prod.fst ∧ v = some (.ref w) ∧ C1 = [wX aX (aN 200) (aK 200) (aT 200) (aR 200) (aV 6) gG gY gZ ct SX, wDp gG (SD ++ [(w, (2, a2, a3))])]) A) args s 1 (4) A) A G 4 1 (4) [wX aX (aN 200) (aK 200) (aT 200) (aR 200) (aV 6) gG gY gZ ct SX, wDp gG SD, [(w1, .inr (7, [.int 2, .int a2, .int a3, .ref gG]))]] [(0, .ref (aX 200)), (1, .int 2), (2, .int a2), (3, .int a3)] 69 [.ref w1]
  refine z_freshD (i := 1) (j := 2) rfl rfl rfl (fun hw => ?_)
  refine z_world (Cs' := [wX aX (aN 200) (aK 200) (aT 200) (aR 200) (aV 6) gG gY gZ ct SX, wDp gG (SD ++ [(w1, (2, a2, a3))])]) (by simp [zfl, wDp, wPa, pcls]) ?_
  exact z_aretX E hr ⟨w1, hw, rfl, rfl⟩ dX11_born_69
set_option maxHeartbeats 8000000 in
set_option maxRecDepth 100000 in
theorem c_X11_born_3 {l : Launch} {G : va_G} {ct : Nat → ClassId} {aX aN aK aT aR aV : Nat → Nat} {gG gY gZ : Nat} {SX : zRS} {SD : List (Nat × zPS)} {a2 a3 : Int32}  : zCX (fun _ _ => True) l yX11_born cX11_born 4 (some (.object "MoreStory$Parent")) rm_X11_born G ct [.ref (aX 200), .int 3, .int a2, .int a3] [wX aX (aN 200) (aK 200) (aT 200) (aR 200) (aV 6) gG gY gZ ct SX, wDp gG SD] (fun v C1 => ∃ w : Nat, w ∉ SD.map Prod.fst ∧ v = some (.ref w) ∧ C1 = [wX aX (aN 200) (aK 200) (aT 200) (aR 200) (aV 6) gG gY gZ ct SX, wDp gG (SD ++ [(w, (3, a2, a3))])]) 1 (4) := by
  refine z_enterX (own := RX11) (lv := [(0, .ref (aX 200)), (1, .int 3), (2, .int a2), (3, .int a3)]) (by decide) rfl (Nat.le_of_ble_eq_true rfl) rfl ?_
  intro p e s m args below meth c A E hr hnm hnest
  refine z_iload_n (pc := 0) (k0 := 1) E dX11_born_0 rfl rfl ?_
  refine z_tswIn (pc := 1) (tgt := 70) (v := 3) (n := 3) (off := 69) E dX11_born_1 rfl (by decide) (by decide) (by decide) rfl (by decide) ?_
  refine z_new (pc := 70) (C := RX8) (ci := 8) (fs := [.int 0, .int 0, .int 0, .null]) E inlX8 tyX8 tyX8_ok wd_8_8 wd_8_9 wd_8_10 rfl (by decide +kernel) (Nat.le_of_ble_eq_true rfl) (Nat.le_of_ble_eq_true rfl) dX11_born_70 (fun w1 => ?_)
  show zJ p l e rm_X11_born s m args below meth c (MQ below (zQX G ct (fun v C1 => ∃ w : Nat, w ∉ SD.map Prod.fst ∧ v = some (.ref w) ∧ C1 = [wX aX (aN 200) (aK 200) (aT 200) (aR 200) (aV 6) gG gY gZ ct SX, wDp gG (SD ++ [(w, (3, a2, a3))])]) A) args s 1 (4) A) A G 4 1 (4) [wX aX (aN 200) (aK 200) (aT 200) (aR 200) (aV 6) gG gY gZ ct SX, wDp gG SD, [(w1, .inr (8, [.int 0, .int 0, .int 0, .null]))]] [(0, .ref (aX 200)), (1, .int 3), (2, .int a2), (3, .int a3)] 73 [.ref w1]
  refine z_dup (pc := 73) E dX11_born_73 rfl ?_
  refine z_iload_n (pc := 74) (k0 := 1) E dX11_born_74 rfl rfl ?_
  refine z_iload_n (pc := 75) (k0 := 2) E dX11_born_75 rfl rfl ?_
  refine z_iload_n (pc := 76) (k0 := 3) E dX11_born_76 rfl rfl ?_
  refine z_aload_n (pc := 77) (k0 := 0) E dX11_born_77 rfl rfl ?_
  refine gX_7 (pc := 78) (i := 0) E rfl wd_2_8 dX11_born_78 ?_
  refine z_callI (pc := 81) E zBl_tt (fun _ _ _ => trivial) (n := 4) (As := [.int 3, .int a2, .int a3, .ref gG]) (b := w1) (is := [2]) (st := [.ref w1]) (c_X8_init (q := w1) (gG := gG) (a1 := 3) (a2 := a2) (a3 := a3)) wd_8_10 wd_9_14 wd_9_15 wd_9_16 rfl (by decide) ⟨(Nat.le_of_ble_eq_true rfl), (Nat.le_of_ble_eq_true rfl)⟩ rfl rfl ⟨(Nat.le_of_ble_eq_true rfl), (Nat.le_of_ble_eq_true rfl)⟩ rfl rfl rfl (fun v C1 h => by rw [h.2]; rfl) rfl (Nat.le_of_ble_eq_true rfl) dX11_born_81 ?_
  rintro _ _ ⟨rfl, rfl⟩
  show zJ p l e rm_X11_born s m args below meth c (MQ below (zQX G ct (fun v C1 => ∃ w : Nat, w ∉ SD.map Prod.fst ∧ v = some (.ref w) ∧ C1 = [wX aX (aN 200) (aK 200) (aT 200) (aR 200) (aV 6) gG gY gZ ct SX, wDp gG (SD ++ [(w, (3, a2, a3))])]) A) args s 1 (4) A) A G 4 1 (4) [wX aX (aN 200) (aK 200) (aT 200) (aR 200) (aV 6) gG gY gZ ct SX, wDp gG SD, [(w1, .inr (8, [.int 3, .int a2, .int a3, .ref gG]))]] [(0, .ref (aX 200)), (1, .int 3), (2, .int a2), (3, .int a3)] 84 [.ref w1]
  refine z_freshD (i := 1) (j := 2) rfl rfl rfl (fun hw => ?_)
  refine z_world (Cs' := [wX aX (aN 200) (aK 200) (aT 200) (aR 200) (aV 6) gG gY gZ ct SX, wDp gG (SD ++ [(w1, (3, a2, a3))])]) (by simp [zfl, wDp, wPa, pcls]) ?_
  exact z_aretX E hr ⟨w1, hw, rfl, rfl⟩ dX11_born_84
set_option maxHeartbeats 8000000 in
set_option maxRecDepth 100000 in
theorem c_X11_born_4 {l : Launch} {G : va_G} {ct : Nat → ClassId} {aX aN aK aT aR aV : Nat → Nat} {gG gY gZ : Nat} {SX : zRS} {SD : List (Nat × zPS)} {a2 a3 : Int32}  : zCX (fun _ _ => True) l yX11_born cX11_born 4 (some (.object "MoreStory$Parent")) rm_X11_born G ct [.ref (aX 200), .int 4, .int a2, .int a3] [wX aX (aN 200) (aK 200) (aT 200) (aR 200) (aV 6) gG gY gZ ct SX, wDp gG SD] (fun v C1 => ∃ w : Nat, w ∉ SD.map Prod.fst ∧ v = some (.ref w) ∧ C1 = [wX aX (aN 200) (aK 200) (aT 200) (aR 200) (aV 6) gG gY gZ ct SX, wDp gG (SD ++ [(w, (4, a2, a3))])]) 1 (4) := by
  refine z_enterX (own := RX11) (lv := [(0, .ref (aX 200)), (1, .int 4), (2, .int a2), (3, .int a3)]) (by decide) rfl (Nat.le_of_ble_eq_true rfl) rfl ?_
  intro p e s m args below meth c A E hr hnm hnest
  refine z_iload_n (pc := 0) (k0 := 1) E dX11_born_0 rfl rfl ?_
  refine z_tswIn (pc := 1) (tgt := 85) (v := 4) (n := 4) (off := 84) E dX11_born_1 rfl (by decide) (by decide) (by decide) rfl (by decide) ?_
  refine z_new (pc := 85) (C := RX3) (ci := 3) (fs := [.int 0, .int 0, .int 0, .null]) E inlX3 tyX3 tyX3_ok wd_8_11 wd_8_12 wd_8_13 rfl (by decide +kernel) (Nat.le_of_ble_eq_true rfl) (Nat.le_of_ble_eq_true rfl) dX11_born_85 (fun w1 => ?_)
  show zJ p l e rm_X11_born s m args below meth c (MQ below (zQX G ct (fun v C1 => ∃ w : Nat, w ∉ SD.map Prod.fst ∧ v = some (.ref w) ∧ C1 = [wX aX (aN 200) (aK 200) (aT 200) (aR 200) (aV 6) gG gY gZ ct SX, wDp gG (SD ++ [(w, (4, a2, a3))])]) A) args s 1 (4) A) A G 4 1 (4) [wX aX (aN 200) (aK 200) (aT 200) (aR 200) (aV 6) gG gY gZ ct SX, wDp gG SD, [(w1, .inr (3, [.int 0, .int 0, .int 0, .null]))]] [(0, .ref (aX 200)), (1, .int 4), (2, .int a2), (3, .int a3)] 88 [.ref w1]
  refine z_dup (pc := 88) E dX11_born_88 rfl ?_
  refine z_iload_n (pc := 89) (k0 := 1) E dX11_born_89 rfl rfl ?_
  refine z_iload_n (pc := 90) (k0 := 2) E dX11_born_90 rfl rfl ?_
  refine z_iload_n (pc := 91) (k0 := 3) E dX11_born_91 rfl rfl ?_
  refine z_aload_n (pc := 92) (k0 := 0) E dX11_born_92 rfl rfl ?_
  refine gX_7 (pc := 93) (i := 0) E rfl wd_2_8 dX11_born_93 ?_
  refine z_callI (pc := 96) E zBl_tt (fun _ _ _ => trivial) (n := 4) (As := [.int 4, .int a2, .int a3, .ref gG]) (b := w1) (is := [2]) (st := [.ref w1]) (c_X3_init (q := w1) (gG := gG) (a1 := 4) (a2 := a2) (a3 := a3)) wd_8_13 wd_9_18 wd_9_19 wd_9_20 rfl (by decide) ⟨(Nat.le_of_ble_eq_true rfl), (Nat.le_of_ble_eq_true rfl)⟩ rfl rfl ⟨(Nat.le_of_ble_eq_true rfl), (Nat.le_of_ble_eq_true rfl)⟩ rfl rfl rfl (fun v C1 h => by rw [h.2]; rfl) rfl (Nat.le_of_ble_eq_true rfl) dX11_born_96 ?_
  rintro _ _ ⟨rfl, rfl⟩
  show zJ p l e rm_X11_born s m args below meth c (MQ below (zQX G ct (fun v C1 => ∃ w : Nat, w ∉ SD.map Prod.fst ∧ v = some (.ref w) ∧ C1 = [wX aX (aN 200) (aK 200) (aT 200) (aR 200) (aV 6) gG gY gZ ct SX, wDp gG (SD ++ [(w, (4, a2, a3))])]) A) args s 1 (4) A) A G 4 1 (4) [wX aX (aN 200) (aK 200) (aT 200) (aR 200) (aV 6) gG gY gZ ct SX, wDp gG SD, [(w1, .inr (3, [.int 4, .int a2, .int a3, .ref gG]))]] [(0, .ref (aX 200)), (1, .int 4), (2, .int a2), (3, .int a3)] 99 [.ref w1]
  refine z_freshD (i := 1) (j := 2) rfl rfl rfl (fun hw => ?_)
  refine z_world (Cs' := [wX aX (aN 200) (aK 200) (aT 200) (aR 200) (aV 6) gG gY gZ ct SX, wDp gG (SD ++ [(w1, (4, a2, a3))])]) (by simp [zfl, wDp, wPa, pcls]) ?_
  exact z_aretX E hr ⟨w1, hw, rfl, rfl⟩ dX11_born_99
set_option maxHeartbeats 8000000 in
set_option maxRecDepth 100000 in
theorem c_X11_born_5 {l : Launch} {G : va_G} {ct : Nat → ClassId} {aX aN aK aT aR aV : Nat → Nat} {gG gY gZ : Nat} {SX : zRS} {SD : List (Nat × zPS)} {a2 a3 : Int32}  : zCX (fun _ _ => True) l yX11_born cX11_born 4 (some (.object "MoreStory$Parent")) rm_X11_born G ct [.ref (aX 200), .int 5, .int a2, .int a3] [wX aX (aN 200) (aK 200) (aT 200) (aR 200) (aV 6) gG gY gZ ct SX, wDp gG SD] (fun v C1 => ∃ w : Nat, w ∉ SD.map Prod.fst ∧ v = some (.ref w) ∧ C1 = [wX aX (aN 200) (aK 200) (aT 200) (aR 200) (aV 6) gG gY gZ ct SX, wDp gG (SD ++ [(w, (5, a2, a3))])]) 1 (4) := by
  refine z_enterX (own := RX11) (lv := [(0, .ref (aX 200)), (1, .int 5), (2, .int a2), (3, .int a3)]) (by decide) rfl (Nat.le_of_ble_eq_true rfl) rfl ?_
  intro p e s m args below meth c A E hr hnm hnest
  refine z_iload_n (pc := 0) (k0 := 1) E dX11_born_0 rfl rfl ?_
  refine z_tswIn (pc := 1) (tgt := 100) (v := 5) (n := 5) (off := 99) E dX11_born_1 rfl (by decide) (by decide) (by decide) rfl (by decide) ?_
  refine z_new (pc := 100) (C := RX0) (ci := 0) (fs := [.int 0, .int 0, .int 0, .null]) E inlX0 tyX0 tyX0_ok wd_8_14 wd_8_15 wd_8_16 rfl (by decide +kernel) (Nat.le_of_ble_eq_true rfl) (Nat.le_of_ble_eq_true rfl) dX11_born_100 (fun w1 => ?_)
  show zJ p l e rm_X11_born s m args below meth c (MQ below (zQX G ct (fun v C1 => ∃ w : Nat, w ∉ SD.map Prod.fst ∧ v = some (.ref w) ∧ C1 = [wX aX (aN 200) (aK 200) (aT 200) (aR 200) (aV 6) gG gY gZ ct SX, wDp gG (SD ++ [(w, (5, a2, a3))])]) A) args s 1 (4) A) A G 4 1 (4) [wX aX (aN 200) (aK 200) (aT 200) (aR 200) (aV 6) gG gY gZ ct SX, wDp gG SD, [(w1, .inr (0, [.int 0, .int 0, .int 0, .null]))]] [(0, .ref (aX 200)), (1, .int 5), (2, .int a2), (3, .int a3)] 103 [.ref w1]
  refine z_dup (pc := 103) E dX11_born_103 rfl ?_
  refine z_iload_n (pc := 104) (k0 := 1) E dX11_born_104 rfl rfl ?_
  refine z_iload_n (pc := 105) (k0 := 2) E dX11_born_105 rfl rfl ?_
  refine z_iload_n (pc := 106) (k0 := 3) E dX11_born_106 rfl rfl ?_
  refine z_aload_n (pc := 107) (k0 := 0) E dX11_born_107 rfl rfl ?_
  refine gX_7 (pc := 108) (i := 0) E rfl wd_2_8 dX11_born_108 ?_
  refine z_callI (pc := 111) E zBl_tt (fun _ _ _ => trivial) (n := 4) (As := [.int 5, .int a2, .int a3, .ref gG]) (b := w1) (is := [2]) (st := [.ref w1]) (c_X0_init (q := w1) (gG := gG) (a1 := 5) (a2 := a2) (a3 := a3)) wd_8_16 wd_9_22 wd_9_23 wd_10_0 rfl (by decide) ⟨(Nat.le_of_ble_eq_true rfl), (Nat.le_of_ble_eq_true rfl)⟩ rfl rfl ⟨(Nat.le_of_ble_eq_true rfl), (Nat.le_of_ble_eq_true rfl)⟩ rfl rfl rfl (fun v C1 h => by rw [h.2]; rfl) rfl (Nat.le_of_ble_eq_true rfl) dX11_born_111 ?_
  rintro _ _ ⟨rfl, rfl⟩
  show zJ p l e rm_X11_born s m args below meth c (MQ below (zQX G ct (fun v C1 => ∃ w : Nat, w ∉ SD.map Prod.fst ∧ v = some (.ref w) ∧ C1 = [wX aX (aN 200) (aK 200) (aT 200) (aR 200) (aV 6) gG gY gZ ct SX, wDp gG (SD ++ [(w, (5, a2, a3))])]) A) args s 1 (4) A) A G 4 1 (4) [wX aX (aN 200) (aK 200) (aT 200) (aR 200) (aV 6) gG gY gZ ct SX, wDp gG SD, [(w1, .inr (0, [.int 5, .int a2, .int a3, .ref gG]))]] [(0, .ref (aX 200)), (1, .int 5), (2, .int a2), (3, .int a3)] 114 [.ref w1]
  refine z_freshD (i := 1) (j := 2) rfl rfl rfl (fun hw => ?_)
  refine z_world (Cs' := [wX aX (aN 200) (aK 200) (aT 200) (aR 200) (aV 6) gG gY gZ ct SX, wDp gG (SD ++ [(w1, (5, a2, a3))])]) (by simp [zfl, wDp, wPa, pcls]) ?_
  exact z_aretX E hr ⟨w1, hw, rfl, rfl⟩ dX11_born_114
set_option maxHeartbeats 8000000 in
set_option maxRecDepth 100000 in
theorem c_X11_born_6 {l : Launch} {G : va_G} {ct : Nat → ClassId} {aX aN aK aT aR aV : Nat → Nat} {gG gY gZ : Nat} {SX : zRS} {SD : List (Nat × zPS)} {a2 a3 : Int32}  : zCX (fun _ _ => True) l yX11_born cX11_born 4 (some (.object "MoreStory$Parent")) rm_X11_born G ct [.ref (aX 200), .int 6, .int a2, .int a3] [wX aX (aN 200) (aK 200) (aT 200) (aR 200) (aV 6) gG gY gZ ct SX, wDp gG SD] (fun v C1 => ∃ w : Nat, w ∉ SD.map Prod.fst ∧ v = some (.ref w) ∧ C1 = [wX aX (aN 200) (aK 200) (aT 200) (aR 200) (aV 6) gG gY gZ ct SX, wDp gG (SD ++ [(w, (6, a2, a3))])]) 1 (4) := by
  refine z_enterX (own := RX11) (lv := [(0, .ref (aX 200)), (1, .int 6), (2, .int a2), (3, .int a3)]) (by decide) rfl (Nat.le_of_ble_eq_true rfl) rfl ?_
  intro p e s m args below meth c A E hr hnm hnest
  refine z_iload_n (pc := 0) (k0 := 1) E dX11_born_0 rfl rfl ?_
  refine z_tswIn (pc := 1) (tgt := 115) (v := 6) (n := 6) (off := 114) E dX11_born_1 rfl (by decide) (by decide) (by decide) rfl (by decide) ?_
  refine z_new (pc := 115) (C := RX9) (ci := 9) (fs := [.int 0, .int 0, .int 0, .null]) E inlX9 tyX9 tyX9_ok wd_8_17 wd_8_18 wd_8_19 rfl (by decide +kernel) (Nat.le_of_ble_eq_true rfl) (Nat.le_of_ble_eq_true rfl) dX11_born_115 (fun w1 => ?_)
  show zJ p l e rm_X11_born s m args below meth c (MQ below (zQX G ct (fun v C1 => ∃ w : Nat, w ∉ SD.map Prod.fst ∧ v = some (.ref w) ∧ C1 = [wX aX (aN 200) (aK 200) (aT 200) (aR 200) (aV 6) gG gY gZ ct SX, wDp gG (SD ++ [(w, (6, a2, a3))])]) A) args s 1 (4) A) A G 4 1 (4) [wX aX (aN 200) (aK 200) (aT 200) (aR 200) (aV 6) gG gY gZ ct SX, wDp gG SD, [(w1, .inr (9, [.int 0, .int 0, .int 0, .null]))]] [(0, .ref (aX 200)), (1, .int 6), (2, .int a2), (3, .int a3)] 118 [.ref w1]
  refine z_dup (pc := 118) E dX11_born_118 rfl ?_
  refine z_iload_n (pc := 119) (k0 := 1) E dX11_born_119 rfl rfl ?_
  refine z_iload_n (pc := 120) (k0 := 2) E dX11_born_120 rfl rfl ?_
  refine z_iload_n (pc := 121) (k0 := 3) E dX11_born_121 rfl rfl ?_
  refine z_aload_n (pc := 122) (k0 := 0) E dX11_born_122 rfl rfl ?_
  refine gX_7 (pc := 123) (i := 0) E rfl wd_2_8 dX11_born_123 ?_
  refine z_callI (pc := 126) E zBl_tt (fun _ _ _ => trivial) (n := 4) (As := [.int 6, .int a2, .int a3, .ref gG]) (b := w1) (is := [2]) (st := [.ref w1]) (c_X9_init (q := w1) (gG := gG) (a1 := 6) (a2 := a2) (a3 := a3)) wd_8_19 wd_10_2 wd_10_3 wd_10_4 rfl (by decide) ⟨(Nat.le_of_ble_eq_true rfl), (Nat.le_of_ble_eq_true rfl)⟩ rfl rfl ⟨(Nat.le_of_ble_eq_true rfl), (Nat.le_of_ble_eq_true rfl)⟩ rfl rfl rfl (fun v C1 h => by rw [h.2]; rfl) rfl (Nat.le_of_ble_eq_true rfl) dX11_born_126 ?_
  rintro _ _ ⟨rfl, rfl⟩
  show zJ p l e rm_X11_born s m args below meth c (MQ below (zQX G ct (fun v C1 => ∃ w : Nat, w ∉ SD.map Prod.fst ∧ v = some (.ref w) ∧ C1 = [wX aX (aN 200) (aK 200) (aT 200) (aR 200) (aV 6) gG gY gZ ct SX, wDp gG (SD ++ [(w, (6, a2, a3))])]) A) args s 1 (4) A) A G 4 1 (4) [wX aX (aN 200) (aK 200) (aT 200) (aR 200) (aV 6) gG gY gZ ct SX, wDp gG SD, [(w1, .inr (9, [.int 6, .int a2, .int a3, .ref gG]))]] [(0, .ref (aX 200)), (1, .int 6), (2, .int a2), (3, .int a3)] 129 [.ref w1]
  refine z_freshD (i := 1) (j := 2) rfl rfl rfl (fun hw => ?_)
  refine z_world (Cs' := [wX aX (aN 200) (aK 200) (aT 200) (aR 200) (aV 6) gG gY gZ ct SX, wDp gG (SD ++ [(w1, (6, a2, a3))])]) (by simp [zfl, wDp, wPa, pcls]) ?_
  exact z_aretX E hr ⟨w1, hw, rfl, rfl⟩ dX11_born_129
theorem wv_X11_born : zWV RX11 yX11_born cX11_born 4 (some (.object "MoreStory$Parent")) 3 := ⟨wd_7_23, wd_8_0, wd_1_2, wd_8_1, by decide +kernel⟩
theorem c_X11_born {l : Launch} {G : va_G} {ct : Nat → ClassId} {aX aN aK aT aR aV : Nat → Nat} {gG gY gZ : Nat} {SX : zRS}  {SD : List (Nat × zPS)} {a1 a2 a3 : Int32} (hk : a1 = 0 ∨ a1 = 1 ∨ a1 = 2 ∨ a1 = 3 ∨ a1 = 4 ∨ a1 = 5 ∨ a1 = 6) : zCX (fun _ _ => True) l yX11_born cX11_born 4 (some (.object "MoreStory$Parent")) rm_X11_born G ct [.ref (aX 200), .int a1, .int a2, .int a3] [wX aX (aN 200) (aK 200) (aT 200) (aR 200) (aV 6) gG gY gZ ct SX, wDp gG SD] (fun v C1 => ∃ w : Nat, w ∉ SD.map Prod.fst ∧ v = some (.ref w) ∧ C1 = [wX aX (aN 200) (aK 200) (aT 200) (aR 200) (aV 6) gG gY gZ ct SX, wDp gG (SD ++ [(w, (a1, a2, a3))])]) 1 4 := by
  rcases hk with rfl | rfl | rfl | rfl | rfl | rfl | rfl
  · exact c_X11_born_0
  · exact c_X11_born_1
  · exact c_X11_born_2
  · exact c_X11_born_3
  · exact c_X11_born_4
  · exact c_X11_born_5
  · exact c_X11_born_6
