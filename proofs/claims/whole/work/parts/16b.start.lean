/-! the law, from its entry -/
set_option maxHeartbeats 4000000 in
set_option maxRecDepth 100000 in
theorem whole_start {p : Program} {e : Env} {s : State} {m : MethodId} {below : List Frame} {meth : Method} {c : Code} (l : Launch) (hflags : l.flags = flags0) {b L : Nat} {xs : Nat → Int32} (hL : L ≤ 3072) (C0 : lw_At p s m meth c b L xs) : W p l e room_1 s m #[Value.ref b] below meth c s.heap [] 0 0 (lw_Z below #[Value.ref b] s) (entryFrame m ([Value.ref b] : List Value).toArray 4) := by
  obtain ⟨hx, hb, hr, hml, hown, hts, hX, hbl, hlocks, hgv⟩ := id C0
  obtain ⟨G, ct, hK⟩ := ls_K hts
  obtain ⟨adK, adV, tA, hEnv⟩ := ls_env hts hgv
  have hNst := ls_nst hts (fun q : Nat => s.heap.size ≤ q)
  have E : zE p s m #[Value.ref b] meth c (fun q : Nat => s.heap.size ≤ q) G ct 4 cL_law RL := ⟨hx, hb, hml, hown, fun w h => hts w (ws_wt w h), hK, fun q h => h, hlocks⟩
  have KE : ∀ (cells slots : Nat) (Cs : List va_W) (lv : List (Nat × Value)), cells ≤ 600000 → slots ≤ 7302250 → zJ p l e room_1 s m #[Value.ref b] below meth c (lw_Z below #[Value.ref b] s) (fun q : Nat => s.heap.size ≤ q) G 4 cells slots Cs lv 1339 [] := by
    intro cells slots Cs lv hc hs
    refine z_iconst (pc := 1339) (v := 1) E dL_law_1339 (by decide) ?_
    intro H locs ls hP hD hS hl
    refine va_forget (fun q hq => hS.2.2 q hq) ?_
    refine W.widen (k := 600000) (n := 7302250) hc hs ?_
    exact lw_ret hx hb hr hlocks dL_law_1340
  have key : zJ p l e room_1 s m #[Value.ref b] below meth c (lw_Z below #[Value.ref b] s) (fun q : Nat => s.heap.size ≤ q) G 4 0 0 [] [(0, .ref b)] 0 [] := by
    refine z_new (pc := 0) (C := RX11) (ci := 11) (fs := [.null, .null, .null, .null, .null, .null, .null, .null, .null, .null, .int 0, .int 0]) E inlX11 tyX11 tyX11_ok wd_1_0 wd_1_1 wd_1_2 rfl (by decide +kernel) (Nat.le_of_ble_eq_true rfl) (Nat.le_of_ble_eq_true rfl) dL_law_0 (fun q => ?_)
    show zJ p l e room_1 s m #[Value.ref b] below meth c (lw_Z below #[Value.ref b] s) (fun q : Nat => s.heap.size ≤ q) G 4 1 12 [[(q, .inr (11, [.null, .null, .null, .null, .null, .null, .null, .null, .null, .null, .int 0, .int 0]))]] [(0, .ref b)] 3 [.ref q]
    refine z_dup (pc := 3) E dL_law_3 rfl ?_
    refine z_callI (pc := 4) E zBl_nst (fun _ _ hW => hNst.go hW) (n := 0) (As := []) (b := q) (is := [0]) (st := [.ref q]) (c_X11_init (l := l) (G := G) (ct := ct) (q := q)) wd_1_2 wd_1_7 wd_1_8 wd_1_9 rfl (by decide) ⟨(Nat.le_of_ble_eq_true rfl), (Nat.le_of_ble_eq_true rfl)⟩ rfl rfl ⟨(Nat.le_of_ble_eq_true rfl), (Nat.le_of_ble_eq_true rfl)⟩ rfl rfl rfl (fun v C1 h => by obtain ⟨-, _, _, _, _, _, _, _, _, _, _, -, e⟩ := h; rw [e]; rfl) rfl (Nat.le_of_ble_eq_true rfl) dL_law_4 ?_
    rintro _ _ ⟨rfl, aX, aN, aK, aT, aH, aR, aV, gG, gY, gZ, hq, rfl⟩
    subst hq
    show zJ p l e room_1 s m #[Value.ref b] below meth c (lw_Z below #[Value.ref b] s) (fun q : Nat => s.heap.size ≤ q) G 4 45 917 [zB0 ct aX aN aK aT aH aR aV gG gY gZ] [(0, .ref b)] 7 [.ref (aX 200)]
    refine z_astore_n (pc := 7) (lv' := [(1, .ref (aX 200)), (0, .ref b)]) E dL_law_7 rfl (by decide) rfl ?_
    refine z_new (pc := 8) (C := RX12) (ci := 12) (fs := [.int 0, .int 0, .int 0, .int 0, .int 0, .int 0, .int 0, .int 0, .null, .null, .null, .null, .null, .null, .int 0, .int 0, .int 0, .int 0, .int 0, .null, .null, .null, .null, .null, .null, .null, .null, .int 0, .int 0, .int 0, .null, .null, .int 0, .int 0, .int 0, .int 0, .int 0, .int 0, .int 0, .int 0, .int 0, .int 0, .int 0, .null, .null, .null, .int 0, .null, .int 0, .null, .int 0, .int 0, .int 0, .int 0, .int 0, .int 0, .int 0, .int 0, .int 0, .int 0, .int 0, .int 0, .null, .null, .null, .null, .null, .null, .null, .null, .int 0, .null, .null, .null, .null, .null]) E inlX12 tyX12 tyX12_ok wd_1_3 wd_1_4 wd_1_5 rfl (by decide +kernel) (Nat.le_of_ble_eq_true rfl) (Nat.le_of_ble_eq_true rfl) dL_law_8 (fun q => ?_)
    show zJ p l e room_1 s m #[Value.ref b] below meth c (lw_Z below #[Value.ref b] s) (fun q : Nat => s.heap.size ≤ q) G 4 46 993 [zB0 ct aX aN aK aT aH aR aV gG gY gZ, [(q, .inr (12, [.int 0, .int 0, .int 0, .int 0, .int 0, .int 0, .int 0, .int 0, .null, .null, .null, .null, .null, .null, .int 0, .int 0, .int 0, .int 0, .int 0, .null, .null, .null, .null, .null, .null, .null, .null, .int 0, .int 0, .int 0, .null, .null, .int 0, .int 0, .int 0, .int 0, .int 0, .int 0, .int 0, .int 0, .int 0, .int 0, .int 0, .null, .null, .null, .int 0, .null, .int 0, .null, .int 0, .int 0, .int 0, .int 0, .int 0, .int 0, .int 0, .int 0, .int 0, .int 0, .int 0, .int 0, .null, .null, .null, .null, .null, .null, .null, .null, .int 0, .null, .null, .null, .null, .null]))]] [(1, .ref (aX 200)), (0, .ref b)] 11 [.ref q]
    refine z_dup (pc := 11) E dL_law_11 rfl ?_
    refine z_callI (pc := 12) E zBl_tt (fun _ _ _ => trivial) (n := 0) (As := []) (b := q) (is := [1]) (st := [.ref q]) (c_X12_init (l := l) (G := G) (ct := ct) (q := q)) wd_1_5 wd_3_15 wd_3_16 wd_3_17 rfl (by decide) ⟨(Nat.le_of_ble_eq_true rfl), (Nat.le_of_ble_eq_true rfl)⟩ rfl rfl ⟨(Nat.le_of_ble_eq_true rfl), (Nat.le_of_ble_eq_true rfl)⟩ rfl rfl rfl (fun v C1 h => by obtain ⟨-, _, -, e⟩ := h; rw [e]; rfl) rfl (Nat.le_of_ble_eq_true rfl) dL_law_12 ?_
    rintro _ _ ⟨rfl, aM, hq, rfl⟩
    subst hq
    show zJ p l e room_1 s m #[Value.ref b] below meth c (lw_Z below #[Value.ref b] s) (fun q : Nat => s.heap.size ≤ q) G 4 80 2755 [zB0 ct aX aN aK aT aH aR aV gG gY gZ, wM aM ct zM0] [(1, .ref (aX 200)), (0, .ref b)] 15 [.ref (aM 200)]
    refine z_astore_n (pc := 15) (lv' := [(2, .ref (aM 200)), (1, .ref (aX 200)), (0, .ref b)]) E dL_law_15 rfl (by decide) rfl ?_
    refine z_iconst (pc := 16) (v := nI 0) E dL_law_16 (by decide) ?_
    refine z_istore_n (pc := 17) (lv' := [(3, .int (nI 0)), (2, .ref (aM 200)), (1, .ref (aX 200)), (0, .ref b)]) E dL_law_17 rfl (by decide) rfl ?_
    refine z_world (Cs' := [wX aX (aN 200) (aK 200) (aT 200) (aR 200) (aV 6) gG gY gZ ct zX0, wH aN ct zH0, wH aK ct zH0, wT aT (aH 200) ct zT0, wH aH ct zH0, wR aR ct zR0, wV aV ct (fun _ _ => 0), wA gG 21 ct (fun _ => 0), wA gY 5 ct (fun _ => 0), wA gZ 5 ct (fun _ => 0), wDp gG [], wDh ct [], wM aM ct zM0]) (by simp [zfl, zB0, wDp, wDh]) ?_
    exact lo_loop E hEnv hX hbl hL KE (L / 6 + 1) 0 80 2755 _ _ _ _ _ _ _ _ _ _ _ _ _ (by omega) (by omega) (by omega) (by omega) rb_all0
  have hl := lv_entry ([.ref b]) (n := 4) (Nat.le_of_ble_eq_true rfl)
  rw [lg_entry_eq]
  generalize (lg_sl ([.ref b]) ++ List.replicate (4 - (lg_sl ([.ref b])).length) Slot.unset).toArray = ls at hl ⊢
  have hl : lv_has ls 4 [(0, .ref b)] := hl
  exact key s.heap [] ls (fun k q h => by simp [zfl] at h) ⟨fun i j p q h => by simp [zfl] at h, fun k q h => by simp [zfl] at h⟩ va_S.rf hl
