set_option maxHeartbeats 4000000 in
set_option maxRecDepth 100000 in
theorem kX4_townr1 (l : Launch) (G : Gl) (x : Nat) (st : Nat) (tr : Nat) (ra : Nat) (sa : Nat) (R : Nat) (tc : Int32) (fl : Int32) (k : Int32) (lane : Int32) (i : Int32) (n : Int32) (hk : ¬ (vp_in k 4)) : Wt l G yX4_town wsX4_town ({ frames := 1, cells := 0, slots := 0, locals := 21 } : Room) [.ref x, .int k, .int lane, .int i, .int n] [(x, .inr (4, [.ref st, .ref tr, .ref ra, .int (nI R), .ref sa, .int tc, .int fl]))] [(x, .inr (4, [.ref st, .ref tr, .ref ra, .int (nI R), .ref sa, .int tc, .int (nI 0)]))] (some (.int (-1))) := by
  refine Wt.ofI (cc := cX4_town) (maxL := 8) (by decide) rfl (Nat.le_of_ble_eq_true rfl) ?_
  intro p e s m below meth c Q A ls hE hP hK hD hS hl hret
  obtain ⟨hx, hb, hml, hown, hts⟩ := id hE
  have hl : lv_has ls 8 [(0, .ref x), (1, .int k), (2, .int lane), (3, .int i), (4, .int n)] := hl
  refine lv_iload_n hx hb dX4_town_0 rfl (lv_at hl 1 rfl) ?_
  refine rdS (As := [.int k]) (rest := []) hE (kX4_isSheet l G k ) (va_cwS 1 hts gX4_town_X4_isSheet rfl rfl rfl (by decide +kernel) ⟨Nat.le_of_ble_eq_true rfl, Nat.le_of_ble_eq_true rfl⟩) hP hK [] rfl rfl hl.1 rfl (Nat.le_of_ble_eq_true rfl) dX4_town_1 ⟨Nat.zero_le _, Nat.zero_le _⟩ ?_
  refine W.eq (g2 := F0 m 4 ls [.int (bI (vp_in k 4))]) rfl ?_
  refine bz_ne (tgt := 13) hx hb dX4_town_4 (by decide) (fun c1 => ?_) (fun c1 => ?_)
  ·
    exact absurd c1 hk
  ·
    refine lv_aload_n hx hb dX4_town_7 rfl (lv_at hl 0 rfl) ?_
    refine lv_iconst (v := (-1)) hx hb dX4_town_8 (by decide) ?_
    refine wtV (As := [.int (-1)]) (rest := []) (ci := 4) (q0 := 0) hE (kX4_refused l G x st tr ra sa R tc fl (-1) ) (cwV 1 hts gX4_town_X4_refused rfl rfl rfl (by decide +kernel) ⟨Nat.le_of_ble_eq_true rfl, Nat.le_of_ble_eq_true rfl⟩) hP hK hD hS [0] (by decide) rfl (Eq.trans (b := [x]) rfl rfl) (W1 := [(x, .inr (4, [.ref st, .ref tr, .ref ra, .int (nI R), .ref sa, .int tc, .int (nI 0)]))]) rfl rfl rfl rfl hl.1 rfl (Nat.le_of_ble_eq_true rfl) dX4_town_9 ⟨Nat.zero_le _, Nat.zero_le _⟩ (fun H locs hP hD hS => ?_)
    refine W.eq (g2 := F0 m 12 ls [.int (-1)]) rfl ?_
    exact hret _ _ _ _ _ (by first | with_reducible rfl | (simp only [iF_f c1]; done) | contradiction) (hP) hS dX4_town_12

set_option maxHeartbeats 4000000 in
set_option maxRecDepth 100000 in
theorem kX4_townr2 (l : Launch) (G : Gl) (x : Nat) (st : Nat) (tr : Nat) (ra : Nat) (sa : Nat) (R : Nat) (tc : Int32) (fl : Int32) (k : Nat) (lane : Int32) (i : Int32) (n : Int32) (hk4 : k < 4) (hln : ¬ (vp_in lane (2 + 1))) : Wt l G yX4_town wsX4_town ({ frames := 1, cells := 0, slots := 0, locals := 21 } : Room) [.ref x, .int (nI k), .int lane, .int i, .int n] [(x, .inr (4, [.ref st, .ref tr, .ref ra, .int (nI R), .ref sa, .int tc, .int fl]))] [(x, .inr (4, [.ref st, .ref tr, .ref ra, .int (nI R), .ref sa, .int tc, .int (nI 0)]))] (some (.int (-2))) := by
  refine Wt.ofI (cc := cX4_town) (maxL := 8) (by decide) rfl (Nat.le_of_ble_eq_true rfl) ?_
  intro p e s m below meth c Q A ls hE hP hK hD hS hl hret
  obtain ⟨hx, hb, hml, hown, hts⟩ := id hE
  have hl : lv_has ls 8 [(0, .ref x), (1, .int (nI k)), (2, .int lane), (3, .int i), (4, .int n)] := hl
  refine lv_iload_n hx hb dX4_town_0 rfl (lv_at hl 1 rfl) ?_
  refine rdS (As := [.int (nI k)]) (rest := []) hE (kX4_isSheet l G (nI k) ) (va_cwS 1 hts gX4_town_X4_isSheet rfl rfl rfl (by decide +kernel) ⟨Nat.le_of_ble_eq_true rfl, Nat.le_of_ble_eq_true rfl⟩) hP hK [] rfl rfl hl.1 rfl (Nat.le_of_ble_eq_true rfl) dX4_town_1 ⟨Nat.zero_le _, Nat.zero_le _⟩ ?_
  refine W.eq (g2 := F0 m 4 ls [.int (bI (vp_in (nI k) 4))]) rfl ?_
  refine bz_ne (tgt := 13) hx hb dX4_town_4 (by decide) (fun c1 => ?_) (fun c1 => ?_)
  ·
    refine lv_iload_n hx hb dX4_town_13 rfl (lv_at hl 2 rfl) ?_
    refine rdS (As := [.int lane]) (rest := []) hE (kX4_isLane l G lane ) (va_cwS 1 hts gX4_town_X4_isLane rfl rfl rfl (by decide +kernel) ⟨Nat.le_of_ble_eq_true rfl, Nat.le_of_ble_eq_true rfl⟩) hP hK [] rfl rfl hl.1 rfl (Nat.le_of_ble_eq_true rfl) dX4_town_14 ⟨Nat.zero_le _, Nat.zero_le _⟩ ?_
    refine W.eq (g2 := F0 m 17 ls [.int (bI (vp_in lane (2 + 1)))]) rfl ?_
    refine bz_ne (tgt := 27) hx hb dX4_town_17 (by decide) (fun c2 => ?_) (fun c2 => ?_)
    ·
      exact absurd c2 hln
    ·
      refine lv_aload_n hx hb dX4_town_20 rfl (lv_at hl 0 rfl) ?_
      refine lv_bipush (v := (-2)) hx hb dX4_town_21 (by decide) ?_
      refine wtV (As := [.int (-2)]) (rest := []) (ci := 4) (q0 := 0) hE (kX4_refused l G x st tr ra sa R tc fl (-2) ) (cwV 1 hts gX4_town_X4_refused rfl rfl rfl (by decide +kernel) ⟨Nat.le_of_ble_eq_true rfl, Nat.le_of_ble_eq_true rfl⟩) hP hK hD hS [0] (by decide) rfl (Eq.trans (b := [x]) rfl rfl) (W1 := [(x, .inr (4, [.ref st, .ref tr, .ref ra, .int (nI R), .ref sa, .int tc, .int (nI 0)]))]) rfl rfl rfl rfl hl.1 rfl (Nat.le_of_ble_eq_true rfl) dX4_town_23 ⟨Nat.zero_le _, Nat.zero_le _⟩ (fun H locs hP hD hS => ?_)
      refine W.eq (g2 := F0 m 26 ls [.int (-2)]) rfl ?_
      exact hret _ _ _ _ _ (by first | with_reducible rfl | (simp only [iF_t c1, iF_f c2]; done) | contradiction) (hP) hS dX4_town_26
  ·
    exact absurd (vp_in_nI hk4 (by omega)) c1

theorem ixX4_town_X4 : ∀ w ∈ wsX40, w ∈ wsX4_town := fun _ h => List.mem_cons_of_mem _ (List.mem_append_left _ (List.mem_append_left _ (List.mem_append_left _ (List.mem_append_right _ h))))
theorem lkX4_town_33 : Cond.fieldLink RX4 33 (TX4 4).1 (TX4 4).2.1 (TX4 4).2.2.1 ∈ wsX4_town := List.mem_of_getElem? (i := 1) rfl
set_option maxHeartbeats 4000000 in
set_option maxRecDepth 100000 in
theorem kX4_townf (l : Launch) (G : Gl) (x : Nat) (st : Nat) (tr : Nat) (ra : Nat) (sa : Nat) (R : Nat) (tc : Int32) (fl : Int32) (SA : Nat → Option Nat) (sh : Nat) (sc : Nat) (ln : Int32) (L : Nat) (k : Nat) (lane : Int32) (i : Int32) (n : Int32) (hk4 : k < 4) (hln : vp_in lane (2 + 1)) (hsh : SA k = some sh) (hft : ¬ ((ft (-1) ln L lane i n) = 0)) : Wt l G yX4_town wsX4_town ({ frames := 2, cells := 0, slots := 0, locals := 45 } : Room) [.ref x, .int (nI k), .int lane, .int i, .int n] [(x, .inr (4, [.ref st, .ref tr, .ref ra, .int (nI R), .ref sa, .int tc, .int fl])), (sa, aS G 4 SA), (sh, .inr (1, [.ref sc, .int ln, .int (nI L)]))] [(x, .inr (4, [.ref st, .ref tr, .ref ra, .int (nI R), .ref sa, .int tc, .int (ft (-1) ln L lane i n)])), (sa, aS G 4 SA), (sh, .inr (1, [.ref sc, .int ln, .int (nI L)]))] (some (.int ((-10) - (ft (-1) ln L lane i n)))) := by
  refine Wt.ofI (cc := cX4_town) (maxL := 8) (by decide) rfl (Nat.le_of_ble_eq_true rfl) ?_
  intro p e s m below meth c Q A ls hE hP hK hD hS hl hret
  obtain ⟨hx, hb, hml, hown, hts⟩ := id hE
  have hl : lv_has ls 8 [(0, .ref x), (1, .int (nI k)), (2, .int lane), (3, .int i), (4, .int n)] := hl
  refine lv_iload_n hx hb dX4_town_0 rfl (lv_at hl 1 rfl) ?_
  refine rdS (As := [.int (nI k)]) (rest := []) hE (kX4_isSheet l G (nI k) ) (va_cwS 1 hts gX4_town_X4_isSheet rfl rfl rfl (by decide +kernel) ⟨Nat.le_of_ble_eq_true rfl, Nat.le_of_ble_eq_true rfl⟩) hP hK [] rfl rfl hl.1 rfl (Nat.le_of_ble_eq_true rfl) dX4_town_1 ⟨Nat.zero_le _, Nat.zero_le _⟩ ?_
  refine W.eq (g2 := F0 m 4 ls [.int (bI (vp_in (nI k) 4))]) rfl ?_
  refine bz_ne (tgt := 13) hx hb dX4_town_4 (by decide) (fun c1 => ?_) (fun c1 => ?_)
  ·
    refine lv_iload_n hx hb dX4_town_13 rfl (lv_at hl 2 rfl) ?_
    refine rdS (As := [.int lane]) (rest := []) hE (kX4_isLane l G lane ) (va_cwS 1 hts gX4_town_X4_isLane rfl rfl rfl (by decide +kernel) ⟨Nat.le_of_ble_eq_true rfl, Nat.le_of_ble_eq_true rfl⟩) hP hK [] rfl rfl hl.1 rfl (Nat.le_of_ble_eq_true rfl) dX4_town_14 ⟨Nat.zero_le _, Nat.zero_le _⟩ ?_
    refine W.eq (g2 := F0 m 17 ls [.int (bI (vp_in lane (2 + 1)))]) rfl ?_
    refine bz_ne (tgt := 27) hx hb dX4_town_17 (by decide) (fun c2 => ?_) (fun c2 => ?_)
    ·
      refine lv_aload_n hx hb dX4_town_27 rfl (lv_at hl 0 rfl) ?_
      refine g_get (v := .ref sa) hx hb hts ixX4_town_X4 hown hK hP 0 rfl rfl 4 (by decide) lkX4_town_33 rfl dX4_town_28 ?_
      refine lv_iload_n hx hb dX4_town_31 rfl (lv_at hl 1 rfl) ?_
      refine n_aldS hx hb hK hP 1 rfl (k := k) (x := sh) (by omega) (by decide) hsh dX4_town_32 ?_
      refine lv_iload_n hx hb dX4_town_33 rfl (lv_at hl 2 rfl) ?_
      refine lv_iload_n hx hb dX4_town_34 rfl (lv_at hl 3 rfl) ?_
      refine lv_iload hx hb dX4_town_35 (lv_at hl 4 rfl) ?_
      refine rdV (As := [.int lane, .int i, .int n]) (rest := []) (ci := 1) (q0 := 2) hE (kX1_faultOfTaking l G sh sc ln L lane i n ) (cwV 3 hts gX4_town_X1_faultOfTaking rfl rfl rfl (by decide +kernel) ⟨Nat.le_of_ble_eq_true rfl, Nat.le_of_ble_eq_true rfl⟩) hP hK [2] rfl rfl rfl rfl hl.1 rfl (Nat.le_of_ble_eq_true rfl) dX4_town_37 ⟨Nat.zero_le _, Nat.zero_le _⟩ ?_
      refine W.eq (g2 := F0 m 40 ls [.int (ft (-1) ln L lane i n)]) rfl ?_
      refine lv_istore (lv' := [(5, .int (ft (-1) ln L lane i n)), (0, .ref x), (1, .int (nI k)), (2, .int lane), (3, .int i), (4, .int n)]) hx hb dX4_town_40 hl (by decide) rfl (fun ls hl => ?_)
      refine lv_iload hx hb dX4_town_42 (lv_at hl 0 rfl) ?_
      refine lv_if_eq (tgt := 54) hx hb dX4_town_44 (by decide) (fun c3 => ?_) (fun c3 => ?_)
      ·
        exact absurd c3 hft
      ·
        refine lv_aload_n hx hb dX4_town_47 rfl (lv_at hl 1 rfl) ?_
        refine lv_iload hx hb dX4_town_48 (lv_at hl 0 rfl) ?_
        refine wtV (As := [.int (ft (-1) ln L lane i n)]) (rest := []) (ci := 4) (q0 := 0) hE (kX4_faulted l G x st tr ra sa R tc fl (ft (-1) ln L lane i n) ) (cwV 1 hts gX4_town_X4_faulted rfl rfl rfl (by decide +kernel) ⟨Nat.le_of_ble_eq_true rfl, Nat.le_of_ble_eq_true rfl⟩) hP hK hD hS [0] (by decide) rfl (Eq.trans (b := [x]) rfl rfl) (W1 := [(x, .inr (4, [.ref st, .ref tr, .ref ra, .int (nI R), .ref sa, .int tc, .int (ft (-1) ln L lane i n)])), (sa, aS G 4 SA), (sh, .inr (1, [.ref sc, .int ln, .int (nI L)]))]) rfl rfl rfl rfl hl.1 rfl (Nat.le_of_ble_eq_true rfl) dX4_town_50 ⟨Nat.zero_le _, Nat.zero_le _⟩ (fun H locs hP hD hS => ?_)
        refine W.eq (g2 := F0 m 53 ls [.int ((-10) - (ft (-1) ln L lane i n))]) rfl ?_
        exact hret _ _ _ _ _ (by first | with_reducible rfl | (simp only [iF_t c1, iF_t c2, iF_f c3]; done) | contradiction) (hP) hS dX4_town_53
    ·
      exact absurd hln c2
  ·
    exact absurd (vp_in_nI hk4 (by omega)) c1
