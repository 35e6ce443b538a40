theorem nkX4_139 : Cond.fieldLinkNest RX4 139 (TX1 0).1 (TX1 0).2.1 (TX1 0).2.2.1 "SolsticeBoys" ∈ nestW := by decide +kernel
theorem nkX4_183 : Cond.fieldLinkNest RX4 183 (TX1 1).1 (TX1 1).2.1 (TX1 1).2.2.1 "SolsticeBoys" ∈ nestW := by decide +kernel
theorem ixX4_sheet_X4 : ∀ w ∈ wsX40, w ∈ wsX4_sheet := fun _ h => List.mem_cons_of_mem _ (List.mem_append_left _ (List.mem_append_right _ h))
theorem lkX4_sheet_40 : Cond.fieldLink RX4 40 (TX4 6).1 (TX4 6).2.1 (TX4 6).2.2.1 ∈ wsX4_sheet := List.mem_of_getElem? (i := 1) rfl
theorem lkX4_sheet_33 : Cond.fieldLink RX4 33 (TX4 4).1 (TX4 4).2.1 (TX4 4).2.2.1 ∈ wsX4_sheet := List.mem_of_getElem? (i := 2) rfl
set_option maxHeartbeats 4000000 in
set_option maxRecDepth 100000 in
theorem kX4_sheet (l : Launch) (G : Gl) (x : Nat) (st : Nat) (tr : Nat) (ra : Nat) (sa : Nat) (R : Nat) (tc : Int32) (fl : Int32) (SA : Nat → Option Nat) (sh : Nat) (sc : Nat) (ln : Int32) (L : Nat) (F : Nat → Int32) (k : Int32) (lane : Int32) (n : Int32) (hsh : ∀ j, j < 4 → k = nI j → SA j = some sh) : Wt l G yX4_sheet wsX4_sheet ({ frames := 1, cells := 0, slots := 0, locals := 23 } : Room) [.ref x, .int k, .int lane, .int n] [(x, .inr (4, [.ref st, .ref tr, .ref ra, .int (nI R), .ref sa, .int tc, .int fl])), (sa, aS G 4 SA), (sh, .inr (1, [.ref sc, .int ln, .int (nI L)])), (sc, aI G 60 F)] [(x, .inr (4, [.ref st, .ref tr, .ref ra, .int (nI R), .ref sa, .int tc, .int (f_sheet k lane n)])), (sa, aS G 4 SA), (sh, .inr (1, [.ref sc, .int (shG k lane n lane ln), .int (shG k lane n n (nI L))])), (sc, aI G 60 (shG k lane n (zr F 60) F))] (some (.int (s_sheet k lane n))) := by
  refine Wt.ofI (cc := cX4_sheet) (maxL := 4) (by decide) rfl (Nat.le_of_ble_eq_true rfl) ?_
  intro p e s m below meth c Q A ls hE hP hK hD hS hl hret
  obtain ⟨hx, hb, hml, hown, hts⟩ := id hE
  have hl : lv_has ls 4 [(0, .ref x), (1, .int k), (2, .int lane), (3, .int n)] := hl
  refine lv_iload_n hx hb dX4_sheet_0 rfl (lv_at hl 1 rfl) ?_
  refine rdS (As := [.int k]) (rest := []) hE (kX4_isSheet l G k ) (va_cwS 1 hts gX4_sheet_X4_isSheet rfl rfl rfl (by decide +kernel) ⟨Nat.le_of_ble_eq_true rfl, Nat.le_of_ble_eq_true rfl⟩) hP hK [] rfl rfl hl.1 rfl (Nat.le_of_ble_eq_true rfl) dX4_sheet_1 ⟨Nat.zero_le _, Nat.zero_le _⟩ ?_
  refine W.eq (g2 := F0 m 4 ls [.int (bI (vp_in k 4))]) rfl ?_
  refine bz_ne (tgt := 13) hx hb dX4_sheet_4 (by decide) (fun c1 => ?_) (fun c1 => ?_)
  ·
    obtain ⟨jk, hjk, rfl⟩ := vp_in_of c1 (by omega)
    refine lv_iload_n hx hb dX4_sheet_13 rfl (lv_at hl 2 rfl) ?_
    refine rdS (As := [.int lane]) (rest := []) hE (kX4_isLane l G lane ) (va_cwS 1 hts gX4_sheet_X4_isLane rfl rfl rfl (by decide +kernel) ⟨Nat.le_of_ble_eq_true rfl, Nat.le_of_ble_eq_true rfl⟩) hP hK [] rfl rfl hl.1 rfl (Nat.le_of_ble_eq_true rfl) dX4_sheet_14 ⟨Nat.zero_le _, Nat.zero_le _⟩ ?_
    refine W.eq (g2 := F0 m 17 ls [.int (bI (vp_in lane (2 + 1)))]) rfl ?_
    refine bz_eq (tgt := 26) hx hb dX4_sheet_17 (by decide) (fun c2 => ?_) (fun c2 => ?_)
    ·
      refine lv_aload_n hx hb dX4_sheet_26 rfl (lv_at hl 0 rfl) ?_
      refine lv_bipush (v := (-2)) hx hb dX4_sheet_27 (by decide) ?_
      refine wtV (As := [.int (-2)]) (rest := []) (ci := 4) (q0 := 0) hE (kX4_refused l G x st tr ra sa R tc fl (-2) ) (cwV 1 hts gX4_sheet_X4_refused rfl rfl rfl (by decide +kernel) ⟨Nat.le_of_ble_eq_true rfl, Nat.le_of_ble_eq_true rfl⟩) hP hK hD hS [0] (by decide) rfl (Eq.trans (b := [x]) rfl rfl) (W1 := [(x, .inr (4, [.ref st, .ref tr, .ref ra, .int (nI R), .ref sa, .int tc, .int (nI 0)])), (sa, aS G 4 SA), (sh, .inr (1, [.ref sc, .int ln, .int (nI L)])), (sc, aI G 60 F)]) rfl rfl rfl rfl hl.1 rfl (Nat.le_of_ble_eq_true rfl) dX4_sheet_29 ⟨Nat.zero_le _, Nat.zero_le _⟩ (fun H locs hP hD hS => ?_)
      refine W.eq (g2 := F0 m 32 ls [.int (-2)]) rfl ?_
      exact hret _ _ _ _ _ (by first | with_reducible rfl | (simp only [s_sheet, f_sheet, shG, iF_t c1, iF_f c2, tn_nI (show jk < 2 ^ 31 by omega)]; done) | contradiction) (by first | with_reducible exact hP | (simp only [s_sheet, f_sheet, shG, iF_t c1, iF_f c2, tn_nI (show jk < 2 ^ 31 by omega)]; with_reducible exact hP) | contradiction | (simp only [s_sheet, f_sheet, shG, iF_t c1, iF_f c2, tn_nI (show jk < 2 ^ 31 by omega)]; exact hP) | exact hP) hS dX4_sheet_32
    ·
      refine lv_iload_n hx hb dX4_sheet_20 rfl (lv_at hl 3 rfl) ?_
      refine lv_bipush (v := nI 60) hx hb dX4_sheet_21 (by decide) ?_
      refine lv_icmp_le (tgt := 33) hx hb dX4_sheet_23 (by decide) (fun c3 => ?_) (fun c3 => ?_)
      ·
        refine lv_iload_n hx hb dX4_sheet_33 rfl (lv_at hl 3 rfl) ?_
        refine lv_if_ge (tgt := 43) hx hb dX4_sheet_34 (by decide) (fun c4 => ?_) (fun c4 => ?_)
        ·
          refine lv_aload_n hx hb dX4_sheet_43 rfl (lv_at hl 0 rfl) ?_
          refine lv_iconst (v := nI 0) hx hb dX4_sheet_44 (by decide) ?_
          refine g_put (v := (nI 0)) hx hb hts ixX4_sheet_X4 tyX4 tyX4_ok nmX4 hown hK hP hD hS 0 rfl rfl 6 (by decide) lkX4_sheet_40 rfl rfl (Nat.le_of_ble_eq_true rfl) dX4_sheet_45 (fun H locs hP hD hS => ?_)
          have hP : va_P G.1 vwCl [(x, .inr (4, [.ref st, .ref tr, .ref ra, .int (nI R), .ref sa, .int tc, .int (nI 0)])), (sa, aS G 4 SA), (sh, .inr (1, [.ref sc, .int ln, .int (nI L)])), (sc, aI G 60 F)] H := hP
          have hD : va_D A [(x, .inr (4, [.ref st, .ref tr, .ref ra, .int (nI R), .ref sa, .int tc, .int (nI 0)])), (sa, aS G 4 SA), (sh, .inr (1, [.ref sc, .int ln, .int (nI L)])), (sc, aI G 60 F)] := hD
          refine lv_aload_n hx hb dX4_sheet_48 rfl (lv_at hl 0 rfl) ?_
          refine g_get (v := .ref sa) hx hb hts ixX4_sheet_X4 hown hK hP 0 rfl rfl 4 (by decide) lkX4_sheet_33 rfl dX4_sheet_49 ?_
          refine lv_iload_n hx hb dX4_sheet_52 rfl (lv_at hl 1 rfl) ?_
          refine n_aldS hx hb hK hP 1 rfl (k := jk) (x := sh) (by omega) (by decide) (hsh jk (by omega) rfl) dX4_sheet_53 ?_
          refine lv_iload_n hx hb dX4_sheet_54 rfl (lv_at hl 2 rfl) ?_
          refine lv_iload_n hx hb dX4_sheet_55 rfl (lv_at hl 3 rfl) ?_
          refine wtV (As := [.int lane, .int n]) (rest := []) (ci := 1) (q0 := 2) hE (kX1_renew l G sh sc ln (nI L) F lane n ) (cwV 2 hts gX4_sheet_X1_renew rfl rfl rfl (by decide +kernel) ⟨Nat.le_of_ble_eq_true rfl, Nat.le_of_ble_eq_true rfl⟩) hP hK hD hS [2, 3] (by decide) rfl (Eq.trans (b := [sh, sc]) rfl rfl) (W1 := [(x, .inr (4, [.ref st, .ref tr, .ref ra, .int (nI R), .ref sa, .int tc, .int (nI 0)])), (sa, aS G 4 SA), (sh, .inr (1, [.ref sc, .int lane, .int n])), (sc, aI G 60 (zr F 60))]) rfl rfl rfl rfl hl.1 rfl (Nat.le_of_ble_eq_true rfl) dX4_sheet_56 ⟨Nat.zero_le _, Nat.zero_le _⟩ (fun H locs hP hD hS => ?_)
          refine W.eq (g2 := F0 m 59 ls []) rfl ?_
          refine lv_iconst (v := nI 1) hx hb dX4_sheet_59 (by decide) ?_
          exact hret _ _ _ _ _ (by first | with_reducible rfl | (simp only [s_sheet, f_sheet, shG, iF_t c1, iF_t c2, iF_t c3, iF_f (i32_le c3), iF_t c4, iF_f (i32_le c4), tn_nI (show jk < 2 ^ 31 by omega)]; done) | contradiction) (by first | with_reducible exact hP | (simp only [s_sheet, f_sheet, shG, iF_t c1, iF_t c2, iF_t c3, iF_f (i32_le c3), iF_t c4, iF_f (i32_le c4), tn_nI (show jk < 2 ^ 31 by omega)]; with_reducible exact hP) | contradiction | (simp only [s_sheet, f_sheet, shG, iF_t c1, iF_t c2, iF_t c3, iF_f (i32_le c3), iF_t c4, iF_f (i32_le c4), tn_nI (show jk < 2 ^ 31 by omega)]; exact hP) | exact hP) hS dX4_sheet_60
        ·
          refine lv_aload_n hx hb dX4_sheet_37 rfl (lv_at hl 0 rfl) ?_
          refine lv_iconst (v := nI 4) hx hb dX4_sheet_38 (by decide) ?_
          refine wtV (As := [.int (nI 4)]) (rest := []) (ci := 4) (q0 := 0) hE (kX4_faulted l G x st tr ra sa R tc fl (nI 4) ) (cwV 1 hts gX4_sheet_X4_faulted rfl rfl rfl (by decide +kernel) ⟨Nat.le_of_ble_eq_true rfl, Nat.le_of_ble_eq_true rfl⟩) hP hK hD hS [0] (by decide) rfl (Eq.trans (b := [x]) rfl rfl) (W1 := [(x, .inr (4, [.ref st, .ref tr, .ref ra, .int (nI R), .ref sa, .int tc, .int (nI 4)])), (sa, aS G 4 SA), (sh, .inr (1, [.ref sc, .int ln, .int (nI L)])), (sc, aI G 60 F)]) rfl rfl rfl rfl hl.1 rfl (Nat.le_of_ble_eq_true rfl) dX4_sheet_39 ⟨Nat.zero_le _, Nat.zero_le _⟩ (fun H locs hP hD hS => ?_)
          refine W.eq (g2 := F0 m 42 ls [.int ((-10) - (nI 4))]) rfl ?_
          exact hret _ _ _ _ _ (by first | with_reducible rfl | (simp only [s_sheet, f_sheet, shG, iF_t c1, iF_t c2, iF_t c3, iF_f (i32_le c3), iF_f c4, iF_t (i32_nle c4), tn_nI (show jk < 2 ^ 31 by omega)]; done) | contradiction) (by first | with_reducible exact hP | (simp only [s_sheet, f_sheet, shG, iF_t c1, iF_t c2, iF_t c3, iF_f (i32_le c3), iF_f c4, iF_t (i32_nle c4), tn_nI (show jk < 2 ^ 31 by omega)]; with_reducible exact hP) | contradiction | (simp only [s_sheet, f_sheet, shG, iF_t c1, iF_t c2, iF_t c3, iF_f (i32_le c3), iF_f c4, iF_t (i32_nle c4), tn_nI (show jk < 2 ^ 31 by omega)]; exact hP) | exact hP) hS dX4_sheet_42
      ·
        refine lv_aload_n hx hb dX4_sheet_26 rfl (lv_at hl 0 rfl) ?_
        refine lv_bipush (v := (-2)) hx hb dX4_sheet_27 (by decide) ?_
        refine wtV (As := [.int (-2)]) (rest := []) (ci := 4) (q0 := 0) hE (kX4_refused l G x st tr ra sa R tc fl (-2) ) (cwV 1 hts gX4_sheet_X4_refused rfl rfl rfl (by decide +kernel) ⟨Nat.le_of_ble_eq_true rfl, Nat.le_of_ble_eq_true rfl⟩) hP hK hD hS [0] (by decide) rfl (Eq.trans (b := [x]) rfl rfl) (W1 := [(x, .inr (4, [.ref st, .ref tr, .ref ra, .int (nI R), .ref sa, .int tc, .int (nI 0)])), (sa, aS G 4 SA), (sh, .inr (1, [.ref sc, .int ln, .int (nI L)])), (sc, aI G 60 F)]) rfl rfl rfl rfl hl.1 rfl (Nat.le_of_ble_eq_true rfl) dX4_sheet_29 ⟨Nat.zero_le _, Nat.zero_le _⟩ (fun H locs hP hD hS => ?_)
        refine W.eq (g2 := F0 m 32 ls [.int (-2)]) rfl ?_
        exact hret _ _ _ _ _ (by first | with_reducible rfl | (simp only [s_sheet, f_sheet, shG, iF_t c1, iF_t c2, iF_f c3, iF_t (i32_nle c3), tn_nI (show jk < 2 ^ 31 by omega)]; done) | contradiction) (by first | with_reducible exact hP | (simp only [s_sheet, f_sheet, shG, iF_t c1, iF_t c2, iF_f c3, iF_t (i32_nle c3), tn_nI (show jk < 2 ^ 31 by omega)]; with_reducible exact hP) | contradiction | (simp only [s_sheet, f_sheet, shG, iF_t c1, iF_t c2, iF_f c3, iF_t (i32_nle c3), tn_nI (show jk < 2 ^ 31 by omega)]; exact hP) | exact hP) hS dX4_sheet_32
  ·
    refine lv_aload_n hx hb dX4_sheet_7 rfl (lv_at hl 0 rfl) ?_
    refine lv_iconst (v := (-1)) hx hb dX4_sheet_8 (by decide) ?_
    refine wtV (As := [.int (-1)]) (rest := []) (ci := 4) (q0 := 0) hE (kX4_refused l G x st tr ra sa R tc fl (-1) ) (cwV 1 hts gX4_sheet_X4_refused rfl rfl rfl (by decide +kernel) ⟨Nat.le_of_ble_eq_true rfl, Nat.le_of_ble_eq_true rfl⟩) hP hK hD hS [0] (by decide) rfl (Eq.trans (b := [x]) rfl rfl) (W1 := [(x, .inr (4, [.ref st, .ref tr, .ref ra, .int (nI R), .ref sa, .int tc, .int (nI 0)])), (sa, aS G 4 SA), (sh, .inr (1, [.ref sc, .int ln, .int (nI L)])), (sc, aI G 60 F)]) rfl rfl rfl rfl hl.1 rfl (Nat.le_of_ble_eq_true rfl) dX4_sheet_9 ⟨Nat.zero_le _, Nat.zero_le _⟩ (fun H locs hP hD hS => ?_)
    refine W.eq (g2 := F0 m 12 ls [.int (-1)]) rfl ?_
    exact hret _ _ _ _ _ (by first | with_reducible rfl | (simp only [s_sheet, f_sheet, shG, iF_f c1]; done) | contradiction) (by first | with_reducible exact hP | (simp only [s_sheet, f_sheet, shG, iF_f c1]; with_reducible exact hP) | contradiction | (simp only [s_sheet, f_sheet, shG, iF_f c1]; exact hP) | exact hP) hS dX4_sheet_12

theorem ixX4_lose_X4 : ∀ w ∈ wsX40, w ∈ wsX4_lose := fun _ h => List.mem_cons_of_mem _ (List.mem_append_left _ (List.mem_append_right _ h))
theorem lkX4_lose_33 : Cond.fieldLink RX4 33 (TX4 4).1 (TX4 4).2.1 (TX4 4).2.2.1 ∈ wsX4_lose := List.mem_of_getElem? (i := 1) rfl
set_option maxHeartbeats 4000000 in
set_option maxRecDepth 100000 in
theorem kX4_lose (l : Launch) (G : Gl) (x : Nat) (st : Nat) (tr : Nat) (ra : Nat) (sa : Nat) (R : Nat) (tc : Int32) (fl : Int32) (SA : Nat → Option Nat) (sh : Nat) (sc : Nat) (ln : Int32) (L : Nat) (F : Nat → Int32) (k : Int32) (hsh : ∀ j, j < 4 → k = nI j → SA j = some sh) : Wt l G yX4_lose wsX4_lose ({ frames := 1, cells := 0, slots := 0, locals := 23 } : Room) [.ref x, .int k] [(x, .inr (4, [.ref st, .ref tr, .ref ra, .int (nI R), .ref sa, .int tc, .int fl])), (sa, aS G 4 SA), (sh, .inr (1, [.ref sc, .int ln, .int (nI L)])), (sc, aI G 60 F)] [(x, .inr (4, [.ref st, .ref tr, .ref ra, .int (nI R), .ref sa, .int tc, .int fl])), (sa, aS G 4 SA), (sh, .inr (1, [.ref sc, .int (lsG (-1) ln k (-1) ln), .int (lsG (-1) ln k (nI 0) (nI L))])), (sc, aI G 60 (lsG (-1) ln k (zr F 60) F))] (some (.int (s_lose (-1) ln k))) := by
  refine Wt.ofI (cc := cX4_lose) (maxL := 2) (by decide) rfl (Nat.le_of_ble_eq_true rfl) ?_
  intro p e s m below meth c Q A ls hE hP hK hD hS hl hret
  obtain ⟨hx, hb, hml, hown, hts⟩ := id hE
  have hl : lv_has ls 2 [(0, .ref x), (1, .int k)] := hl
  refine lv_iload_n hx hb dX4_lose_0 rfl (lv_at hl 1 rfl) ?_
  refine rdS (As := [.int k]) (rest := []) hE (kX4_isSheet l G k ) (va_cwS 1 hts gX4_lose_X4_isSheet rfl rfl rfl (by decide +kernel) ⟨Nat.le_of_ble_eq_true rfl, Nat.le_of_ble_eq_true rfl⟩) hP hK [] rfl rfl hl.1 rfl (Nat.le_of_ble_eq_true rfl) dX4_lose_1 ⟨Nat.zero_le _, Nat.zero_le _⟩ ?_
  refine W.eq (g2 := F0 m 4 ls [.int (bI (vp_in k 4))]) rfl ?_
  refine bz_ne (tgt := 9) hx hb dX4_lose_4 (by decide) (fun c1 => ?_) (fun c1 => ?_)
  ·
    obtain ⟨jk, hjk, rfl⟩ := vp_in_of c1 (by omega)
    refine lv_aload_n hx hb dX4_lose_9 rfl (lv_at hl 0 rfl) ?_
    refine g_get (v := .ref sa) hx hb hts ixX4_lose_X4 hown hK hP 0 rfl rfl 4 (by decide) lkX4_lose_33 rfl dX4_lose_10 ?_
    refine lv_iload_n hx hb dX4_lose_13 rfl (lv_at hl 1 rfl) ?_
    refine n_aldS hx hb hK hP 1 rfl (k := jk) (x := sh) (by omega) (by decide) (hsh jk (by omega) rfl) dX4_lose_14 ?_
    refine rdV (As := []) (rest := []) (ci := 1) (q0 := 2) hE (kX1_hasNothing l G sh sc ln L ) (cwV 0 hts gX4_lose_X1_hasNothing rfl rfl rfl (by decide +kernel) ⟨Nat.le_of_ble_eq_true rfl, Nat.le_of_ble_eq_true rfl⟩) hP hK [2] rfl rfl rfl rfl hl.1 rfl (Nat.le_of_ble_eq_true rfl) dX4_lose_15 ⟨Nat.zero_le _, Nat.zero_le _⟩ ?_
    refine W.eq (g2 := F0 m 18 ls [.int (bI (ln = (-1)))]) rfl ?_
    refine bz_eq (tgt := 23) hx hb dX4_lose_18 (by decide) (fun c2 => ?_) (fun c2 => ?_)
    ·
      refine lv_aload_n hx hb dX4_lose_23 rfl (lv_at hl 0 rfl) ?_
      refine g_get (v := .ref sa) hx hb hts ixX4_lose_X4 hown hK hP 0 rfl rfl 4 (by decide) lkX4_lose_33 rfl dX4_lose_24 ?_
      refine lv_iload_n hx hb dX4_lose_27 rfl (lv_at hl 1 rfl) ?_
      refine n_aldS hx hb hK hP 1 rfl (k := jk) (x := sh) (by omega) (by decide) (hsh jk (by omega) rfl) dX4_lose_28 ?_
      refine lv_iconst (v := (-1)) hx hb dX4_lose_29 (by decide) ?_
      refine lv_iconst (v := nI 0) hx hb dX4_lose_30 (by decide) ?_
      refine wtV (As := [.int (-1), .int (nI 0)]) (rest := []) (ci := 1) (q0 := 2) hE (kX1_renew l G sh sc ln (nI L) F (-1) (nI 0) ) (cwV 2 hts gX4_lose_X1_renew rfl rfl rfl (by decide +kernel) ⟨Nat.le_of_ble_eq_true rfl, Nat.le_of_ble_eq_true rfl⟩) hP hK hD hS [2, 3] (by decide) rfl (Eq.trans (b := [sh, sc]) rfl rfl) (W1 := [(x, .inr (4, [.ref st, .ref tr, .ref ra, .int (nI R), .ref sa, .int tc, .int fl])), (sa, aS G 4 SA), (sh, .inr (1, [.ref sc, .int (-1), .int (nI 0)])), (sc, aI G 60 (zr F 60))]) rfl rfl rfl rfl hl.1 rfl (Nat.le_of_ble_eq_true rfl) dX4_lose_31 ⟨Nat.zero_le _, Nat.zero_le _⟩ (fun H locs hP hD hS => ?_)
      refine W.eq (g2 := F0 m 34 ls []) rfl ?_
      refine lv_iconst (v := nI 1) hx hb dX4_lose_34 (by decide) ?_
      exact hret _ _ _ _ _ (by first | with_reducible rfl | (simp only [s_lose, lsG, iF_t c1, iF_f c2, tn_nI (show jk < 2 ^ 31 by omega)]; done) | contradiction) (by first | with_reducible exact hP | (simp only [s_lose, lsG, iF_t c1, iF_f c2, tn_nI (show jk < 2 ^ 31 by omega)]; with_reducible exact hP) | contradiction | (simp only [s_lose, lsG, iF_t c1, iF_f c2, tn_nI (show jk < 2 ^ 31 by omega)]; exact hP) | exact hP) hS dX4_lose_35
    ·
      refine lv_iconst (v := nI 0) hx hb dX4_lose_21 (by decide) ?_
      exact hret _ _ _ _ _ (by first | with_reducible rfl | (simp only [s_lose, lsG, iF_t c1, iF_t c2, tn_nI (show jk < 2 ^ 31 by omega)]; done) | contradiction) (by first | with_reducible exact hP | (simp only [s_lose, lsG, iF_t c1, iF_t c2, tn_nI (show jk < 2 ^ 31 by omega)]; with_reducible exact hP) | contradiction | (simp only [s_lose, lsG, iF_t c1, iF_t c2, tn_nI (show jk < 2 ^ 31 by omega)]; exact hP) | exact hP) hS dX4_lose_22
  ·
    refine lv_iconst (v := (-1)) hx hb dX4_lose_7 (by decide) ?_
    exact hret _ _ _ _ _ (by first | with_reducible rfl | (simp only [s_lose, lsG, iF_f c1]; done) | contradiction) (by first | with_reducible exact hP | (simp only [s_lose, lsG, iF_f c1]; with_reducible exact hP) | contradiction | (simp only [s_lose, lsG, iF_f c1]; exact hP) | exact hP) hS dX4_lose_8

theorem ixX4_put_X4 : ∀ w ∈ wsX40, w ∈ wsX4_put := fun _ h => List.mem_cons_of_mem _ (List.mem_append_left _ (List.mem_append_right _ h))
theorem lkX4_put_33 : Cond.fieldLink RX4 33 (TX4 4).1 (TX4 4).2.1 (TX4 4).2.2.1 ∈ wsX4_put := List.mem_of_getElem? (i := 1) rfl
theorem lkX4_put_40 : Cond.fieldLink RX4 40 (TX4 6).1 (TX4 6).2.1 (TX4 6).2.2.1 ∈ wsX4_put := List.mem_of_getElem? (i := 2) rfl
theorem ixX4_put_X1 : ∀ w ∈ wsX10, w ∈ wsX4_put := fun _ h => List.mem_cons_of_mem _ (List.mem_append_right _ h)
set_option maxHeartbeats 4000000 in
set_option maxRecDepth 100000 in
theorem kX4_put (l : Launch) (G : Gl) (x : Nat) (st : Nat) (tr : Nat) (ra : Nat) (sa : Nat) (R : Nat) (tc : Int32) (fl : Int32) (SA : Nat → Option Nat) (sh : Nat) (sc : Nat) (ln : Int32) (L : Nat) (F : Nat → Int32) (k : Int32) (i : Int32) (v : Int32) (hsh : ∀ j, j < 4 → k = nI j → SA j = some sh) (hL : L ≤ 60) : Wt l G yX4_put wsX4_put ({ frames := 1, cells := 0, slots := 0, locals := 22 } : Room) [.ref x, .int k, .int i, .int v] [(x, .inr (4, [.ref st, .ref tr, .ref ra, .int (nI R), .ref sa, .int tc, .int fl])), (sa, aS G 4 SA), (sh, .inr (1, [.ref sc, .int ln, .int (nI L)])), (sc, aI G 60 F)] [(x, .inr (4, [.ref st, .ref tr, .ref ra, .int (nI R), .ref sa, .int tc, .int (f_put (-1) ln L k i)])), (sa, aS G 4 SA), (sh, .inr (1, [.ref sc, .int ln, .int (nI L)])), (sc, aI G 60 (ptG (-1) ln L k i (upd F (tn i) (ctl ln v)) F))] (some (.int (s_put (-1) ln L k i))) := by
  refine Wt.ofI (cc := cX4_put) (maxL := 4) (by decide) rfl (Nat.le_of_ble_eq_true rfl) ?_
  intro p e s m below meth c Q A ls hE hP hK hD hS hl hret
  obtain ⟨hx, hb, hml, hown, hts⟩ := id hE
  have hl : lv_has ls 4 [(0, .ref x), (1, .int k), (2, .int i), (3, .int v)] := hl
  refine lv_iload_n hx hb dX4_put_0 rfl (lv_at hl 1 rfl) ?_
  refine rdS (As := [.int k]) (rest := []) hE (kX4_isSheet l G k ) (va_cwS 1 hts gX4_put_X4_isSheet rfl rfl rfl (by decide +kernel) ⟨Nat.le_of_ble_eq_true rfl, Nat.le_of_ble_eq_true rfl⟩) hP hK [] rfl rfl hl.1 rfl (Nat.le_of_ble_eq_true rfl) dX4_put_1 ⟨Nat.zero_le _, Nat.zero_le _⟩ ?_
  refine W.eq (g2 := F0 m 4 ls [.int (bI (vp_in k 4))]) rfl ?_
  refine bz_ne (tgt := 13) hx hb dX4_put_4 (by decide) (fun c1 => ?_) (fun c1 => ?_)
  ·
    obtain ⟨jk, hjk, rfl⟩ := vp_in_of c1 (by omega)
    refine lv_aload_n hx hb dX4_put_13 rfl (lv_at hl 0 rfl) ?_
    refine g_get (v := .ref sa) hx hb hts ixX4_put_X4 hown hK hP 0 rfl rfl 4 (by decide) lkX4_put_33 rfl dX4_put_14 ?_
    refine lv_iload_n hx hb dX4_put_17 rfl (lv_at hl 1 rfl) ?_
    refine n_aldS hx hb hK hP 1 rfl (k := jk) (x := sh) (by omega) (by decide) (hsh jk (by omega) rfl) dX4_put_18 ?_
    refine rdV (As := []) (rest := []) (ci := 1) (q0 := 2) hE (kX1_hasNothing l G sh sc ln L ) (cwV 0 hts gX4_put_X1_hasNothing rfl rfl rfl (by decide +kernel) ⟨Nat.le_of_ble_eq_true rfl, Nat.le_of_ble_eq_true rfl⟩) hP hK [2] rfl rfl rfl rfl hl.1 rfl (Nat.le_of_ble_eq_true rfl) dX4_put_19 ⟨Nat.zero_le _, Nat.zero_le _⟩ ?_
    refine W.eq (g2 := F0 m 22 ls [.int (bI (ln = (-1)))]) rfl ?_
    refine bz_eq (tgt := 31) hx hb dX4_put_22 (by decide) (fun c2 => ?_) (fun c2 => ?_)
    ·
      refine lv_aload_n hx hb dX4_put_31 rfl (lv_at hl 0 rfl) ?_
      refine g_get (v := .ref sa) hx hb hts ixX4_put_X4 hown hK hP 0 rfl rfl 4 (by decide) lkX4_put_33 rfl dX4_put_32 ?_
      refine lv_iload_n hx hb dX4_put_35 rfl (lv_at hl 1 rfl) ?_
      refine n_aldS hx hb hK hP 1 rfl (k := jk) (x := sh) (by omega) (by decide) (hsh jk (by omega) rfl) dX4_put_36 ?_
      refine lv_iload_n hx hb dX4_put_37 rfl (lv_at hl 2 rfl) ?_
      refine lv_iconst (v := nI 1) hx hb dX4_put_38 (by decide) ?_
      refine rdV (As := [.int i, .int (nI 1)]) (rest := []) (ci := 1) (q0 := 2) hE (kX1_hasCells l G sh sc ln L i (nI 1) ) (cwV 2 hts gX4_put_X1_hasCells rfl rfl rfl (by decide +kernel) ⟨Nat.le_of_ble_eq_true rfl, Nat.le_of_ble_eq_true rfl⟩) hP hK [2] rfl rfl rfl rfl hl.1 rfl (Nat.le_of_ble_eq_true rfl) dX4_put_39 ⟨Nat.zero_le _, Nat.zero_le _⟩ ?_
      refine W.eq (g2 := F0 m 42 ls [.int (bI (hc L i (nI 1)))]) rfl ?_
      refine bz_ne (tgt := 51) hx hb dX4_put_42 (by decide) (fun c3 => ?_) (fun c3 => ?_)
      ·
        have c30 := c3
        obtain ⟨ji, hji, rfl⟩ := hc_1 c30 (by omega)
        refine lv_aload_n hx hb dX4_put_51 rfl (lv_at hl 0 rfl) ?_
        refine lv_iconst (v := nI 0) hx hb dX4_put_52 (by decide) ?_
        refine g_put (v := (nI 0)) hx hb hts ixX4_put_X4 tyX4 tyX4_ok nmX4 hown hK hP hD hS 0 rfl rfl 6 (by decide) lkX4_put_40 rfl rfl (Nat.le_of_ble_eq_true rfl) dX4_put_53 (fun H locs hP hD hS => ?_)
        have hP : va_P G.1 vwCl [(x, .inr (4, [.ref st, .ref tr, .ref ra, .int (nI R), .ref sa, .int tc, .int (nI 0)])), (sa, aS G 4 SA), (sh, .inr (1, [.ref sc, .int ln, .int (nI L)])), (sc, aI G 60 F)] H := hP
        have hD : va_D A [(x, .inr (4, [.ref st, .ref tr, .ref ra, .int (nI R), .ref sa, .int tc, .int (nI 0)])), (sa, aS G 4 SA), (sh, .inr (1, [.ref sc, .int ln, .int (nI L)])), (sc, aI G 60 F)] := hD
        refine lv_aload_n hx hb dX4_put_56 rfl (lv_at hl 0 rfl) ?_
        refine g_get (v := .ref sa) hx hb hts ixX4_put_X4 hown hK hP 0 rfl rfl 4 (by decide) lkX4_put_33 rfl dX4_put_57 ?_
        refine lv_iload_n hx hb dX4_put_60 rfl (lv_at hl 1 rfl) ?_
        refine n_aldS hx hb hK hP 1 rfl (k := jk) (x := sh) (by omega) (by decide) (hsh jk (by omega) rfl) dX4_put_61 ?_
        refine g_getN (v := .ref sc) hx hb hts ixX4_put_X1 hown hK hP 2 rfl rfl 0 (by decide) nkX4_139 rfl dX4_put_62 ?_
        refine lv_iload_n hx hb dX4_put_65 rfl (lv_at hl 2 rfl) ?_
        refine lv_aload_n hx hb dX4_put_66 rfl (lv_at hl 0 rfl) ?_
        refine g_get (v := .ref sa) hx hb hts ixX4_put_X4 hown hK hP 0 rfl rfl 4 (by decide) lkX4_put_33 rfl dX4_put_67 ?_
        refine lv_iload_n hx hb dX4_put_70 rfl (lv_at hl 1 rfl) ?_
        refine n_aldS hx hb hK hP 1 rfl (k := jk) (x := sh) (by omega) (by decide) (hsh jk (by omega) rfl) dX4_put_71 ?_
        refine lv_iload_n hx hb dX4_put_72 rfl (lv_at hl 3 rfl) ?_
        refine rdV (As := [.int v]) (rest := [.int (nI ji), .ref sc]) (ci := 1) (q0 := 2) hE (kX1_cut l G sh sc ln L v ) (cwV 1 hts gX4_put_X1_cut rfl rfl rfl (by decide +kernel) ⟨Nat.le_of_ble_eq_true rfl, Nat.le_of_ble_eq_true rfl⟩) hP hK [2] rfl rfl rfl rfl hl.1 rfl (Nat.le_of_ble_eq_true rfl) dX4_put_73 ⟨Nat.zero_le _, Nat.zero_le _⟩ ?_
        refine W.eq (g2 := F0 m 76 ls [.int (ctl ln v), .int (nI ji), .ref sc]) rfl ?_
        refine n_ast hx hb hK hP hD hS 3 rfl (k := ji) (by omega) (by decide) dX4_put_76 (fun H locs hP hD hS => ?_)
        have hP : va_P G.1 vwCl [(x, .inr (4, [.ref st, .ref tr, .ref ra, .int (nI R), .ref sa, .int tc, .int (nI 0)])), (sa, aS G 4 SA), (sh, .inr (1, [.ref sc, .int ln, .int (nI L)])), (sc, aI G 60 (upd F ji (ctl ln v)))] H := hP
        have hD : va_D A [(x, .inr (4, [.ref st, .ref tr, .ref ra, .int (nI R), .ref sa, .int tc, .int (nI 0)])), (sa, aS G 4 SA), (sh, .inr (1, [.ref sc, .int ln, .int (nI L)])), (sc, aI G 60 (upd F ji (ctl ln v)))] := hD
        refine lv_iconst (v := nI 1) hx hb dX4_put_77 (by decide) ?_
        exact hret _ _ _ _ _ (by first | with_reducible rfl | (simp only [s_put, f_put, ptG, iF_t c1, iF_f c2, iF_t c3, tn_nI (show jk < 2 ^ 31 by omega), tn_nI (show ji < 2 ^ 31 by omega)]; done) | contradiction) (by first | with_reducible exact hP | (simp only [s_put, f_put, ptG, iF_t c1, iF_f c2, iF_t c3, tn_nI (show jk < 2 ^ 31 by omega), tn_nI (show ji < 2 ^ 31 by omega)]; with_reducible exact hP) | contradiction | (simp only [s_put, f_put, ptG, iF_t c1, iF_f c2, iF_t c3, tn_nI (show jk < 2 ^ 31 by omega), tn_nI (show ji < 2 ^ 31 by omega)]; exact hP) | exact hP) hS dX4_put_78
      ·
        refine lv_aload_n hx hb dX4_put_45 rfl (lv_at hl 0 rfl) ?_
        refine lv_iconst (v := nI 3) hx hb dX4_put_46 (by decide) ?_
        refine wtV (As := [.int (nI 3)]) (rest := []) (ci := 4) (q0 := 0) hE (kX4_faulted l G x st tr ra sa R tc fl (nI 3) ) (cwV 1 hts gX4_put_X4_faulted rfl rfl rfl (by decide +kernel) ⟨Nat.le_of_ble_eq_true rfl, Nat.le_of_ble_eq_true rfl⟩) hP hK hD hS [0] (by decide) rfl (Eq.trans (b := [x]) rfl rfl) (W1 := [(x, .inr (4, [.ref st, .ref tr, .ref ra, .int (nI R), .ref sa, .int tc, .int (nI 3)])), (sa, aS G 4 SA), (sh, .inr (1, [.ref sc, .int ln, .int (nI L)])), (sc, aI G 60 F)]) rfl rfl rfl rfl hl.1 rfl (Nat.le_of_ble_eq_true rfl) dX4_put_47 ⟨Nat.zero_le _, Nat.zero_le _⟩ (fun H locs hP hD hS => ?_)
        refine W.eq (g2 := F0 m 50 ls [.int ((-10) - (nI 3))]) rfl ?_
        exact hret _ _ _ _ _ (by first | with_reducible rfl | (simp only [s_put, f_put, ptG, iF_t c1, iF_f c2, iF_f c3, tn_nI (show jk < 2 ^ 31 by omega)]; done) | contradiction) (by first | with_reducible exact hP | (simp only [s_put, f_put, ptG, iF_t c1, iF_f c2, iF_f c3, tn_nI (show jk < 2 ^ 31 by omega)]; with_reducible exact hP) | contradiction | (simp only [s_put, f_put, ptG, iF_t c1, iF_f c2, iF_f c3, tn_nI (show jk < 2 ^ 31 by omega)]; exact hP) | exact hP) hS dX4_put_50
    ·
      refine lv_aload_n hx hb dX4_put_25 rfl (lv_at hl 0 rfl) ?_
      refine lv_iconst (v := nI 1) hx hb dX4_put_26 (by decide) ?_
      refine wtV (As := [.int (nI 1)]) (rest := []) (ci := 4) (q0 := 0) hE (kX4_faulted l G x st tr ra sa R tc fl (nI 1) ) (cwV 1 hts gX4_put_X4_faulted rfl rfl rfl (by decide +kernel) ⟨Nat.le_of_ble_eq_true rfl, Nat.le_of_ble_eq_true rfl⟩) hP hK hD hS [0] (by decide) rfl (Eq.trans (b := [x]) rfl rfl) (W1 := [(x, .inr (4, [.ref st, .ref tr, .ref ra, .int (nI R), .ref sa, .int tc, .int (nI 1)])), (sa, aS G 4 SA), (sh, .inr (1, [.ref sc, .int ln, .int (nI L)])), (sc, aI G 60 F)]) rfl rfl rfl rfl hl.1 rfl (Nat.le_of_ble_eq_true rfl) dX4_put_27 ⟨Nat.zero_le _, Nat.zero_le _⟩ (fun H locs hP hD hS => ?_)
      refine W.eq (g2 := F0 m 30 ls [.int ((-10) - (nI 1))]) rfl ?_
      exact hret _ _ _ _ _ (by first | with_reducible rfl | (simp only [s_put, f_put, ptG, iF_t c1, iF_t c2, tn_nI (show jk < 2 ^ 31 by omega)]; done) | contradiction) (by first | with_reducible exact hP | (simp only [s_put, f_put, ptG, iF_t c1, iF_t c2, tn_nI (show jk < 2 ^ 31 by omega)]; with_reducible exact hP) | contradiction | (simp only [s_put, f_put, ptG, iF_t c1, iF_t c2, tn_nI (show jk < 2 ^ 31 by omega)]; exact hP) | exact hP) hS dX4_put_30
  ·
    refine lv_aload_n hx hb dX4_put_7 rfl (lv_at hl 0 rfl) ?_
    refine lv_iconst (v := (-1)) hx hb dX4_put_8 (by decide) ?_
    refine wtV (As := [.int (-1)]) (rest := []) (ci := 4) (q0 := 0) hE (kX4_refused l G x st tr ra sa R tc fl (-1) ) (cwV 1 hts gX4_put_X4_refused rfl rfl rfl (by decide +kernel) ⟨Nat.le_of_ble_eq_true rfl, Nat.le_of_ble_eq_true rfl⟩) hP hK hD hS [0] (by decide) rfl (Eq.trans (b := [x]) rfl rfl) (W1 := [(x, .inr (4, [.ref st, .ref tr, .ref ra, .int (nI R), .ref sa, .int tc, .int (nI 0)])), (sa, aS G 4 SA), (sh, .inr (1, [.ref sc, .int ln, .int (nI L)])), (sc, aI G 60 F)]) rfl rfl rfl rfl hl.1 rfl (Nat.le_of_ble_eq_true rfl) dX4_put_9 ⟨Nat.zero_le _, Nat.zero_le _⟩ (fun H locs hP hD hS => ?_)
    refine W.eq (g2 := F0 m 12 ls [.int (-1)]) rfl ?_
    exact hret _ _ _ _ _ (by first | with_reducible rfl | (simp only [s_put, f_put, ptG, iF_f c1]; done) | contradiction) (by first | with_reducible exact hP | (simp only [s_put, f_put, ptG, iF_f c1]; with_reducible exact hP) | contradiction | (simp only [s_put, f_put, ptG, iF_f c1]; exact hP) | exact hP) hS dX4_put_12

theorem ixX4_cell_X4 : ∀ w ∈ wsX40, w ∈ wsX4_cell := fun _ h => List.mem_cons_of_mem _ (List.mem_append_left _ (List.mem_append_right _ h))
theorem lkX4_cell_40 : Cond.fieldLink RX4 40 (TX4 6).1 (TX4 6).2.1 (TX4 6).2.2.1 ∈ wsX4_cell := List.mem_of_getElem? (i := 1) rfl
theorem lkX4_cell_33 : Cond.fieldLink RX4 33 (TX4 4).1 (TX4 4).2.1 (TX4 4).2.2.1 ∈ wsX4_cell := List.mem_of_getElem? (i := 3) rfl
theorem ixX4_cell_X1 : ∀ w ∈ wsX10, w ∈ wsX4_cell := fun _ h => List.mem_cons_of_mem _ (List.mem_append_right _ h)
set_option maxHeartbeats 4000000 in
set_option maxRecDepth 100000 in
theorem kX4_cell (l : Launch) (G : Gl) (x : Nat) (st : Nat) (tr : Nat) (ra : Nat) (sa : Nat) (R : Nat) (tc : Int32) (fl : Int32) (SA : Nat → Option Nat) (sh : Nat) (sc : Nat) (ln : Int32) (L : Nat) (F : Nat → Int32) (k : Int32) (i : Int32) (lane : Int32) (hsh : ∀ j, j < 4 → k = nI j → SA j = some sh) (hL : L ≤ 60) : Wt l G yX4_cell wsX4_cell ({ frames := 2, cells := 0, slots := 0, locals := 45 } : Room) [.ref x, .int k, .int i, .int lane] [(x, .inr (4, [.ref st, .ref tr, .ref ra, .int (nI R), .ref sa, .int tc, .int fl])), (sa, aS G 4 SA), (sh, .inr (1, [.ref sc, .int ln, .int (nI L)])), (sc, aI G 60 F)] [(x, .inr (4, [.ref st, .ref tr, .ref ra, .int (nI R), .ref sa, .int tc, .int (f_cell (ft (-1) ln L lane i (nI 1)) k lane)])), (sa, aS G 4 SA), (sh, .inr (1, [.ref sc, .int ln, .int (nI L)])), (sc, aI G 60 F)] (some (.long (s_cell (ft (-1) ln L lane i (nI 1)) (F (tn i)).toInt64 k lane))) := by
  refine Wt.ofL (cc := cX4_cell) (maxL := 4) (by decide) rfl (Nat.le_of_ble_eq_true rfl) ?_
  intro p e s m below meth c Q A ls hE hP hK hD hS hl hret
  obtain ⟨hx, hb, hml, hown, hts⟩ := id hE
  have hl : lv_has ls 4 [(0, .ref x), (1, .int k), (2, .int i), (3, .int lane)] := hl
  refine lv_iload_n hx hb dX4_cell_0 rfl (lv_at hl 1 rfl) ?_
  refine rdS (As := [.int k]) (rest := []) hE (kX4_isSheet l G k ) (va_cwS 1 hts gX4_cell_X4_isSheet rfl rfl rfl (by decide +kernel) ⟨Nat.le_of_ble_eq_true rfl, Nat.le_of_ble_eq_true rfl⟩) hP hK [] rfl rfl hl.1 rfl (Nat.le_of_ble_eq_true rfl) dX4_cell_1 ⟨Nat.zero_le _, Nat.zero_le _⟩ ?_
  refine W.eq (g2 := F0 m 4 ls [.int (bI (vp_in k 4))]) rfl ?_
  refine bz_eq (tgt := 14) hx hb dX4_cell_4 (by decide) (fun c1 => ?_) (fun c1 => ?_)
  ·
    refine lv_aload_n hx hb dX4_cell_14 rfl (lv_at hl 0 rfl) ?_
    refine lv_iconst (v := nI 0) hx hb dX4_cell_15 (by decide) ?_
    refine g_put (v := (nI 0)) hx hb hts ixX4_cell_X4 tyX4 tyX4_ok nmX4 hown hK hP hD hS 0 rfl rfl 6 (by decide) lkX4_cell_40 rfl rfl (Nat.le_of_ble_eq_true rfl) dX4_cell_16 (fun H locs hP hD hS => ?_)
    have hP : va_P G.1 vwCl [(x, .inr (4, [.ref st, .ref tr, .ref ra, .int (nI R), .ref sa, .int tc, .int (nI 0)])), (sa, aS G 4 SA), (sh, .inr (1, [.ref sc, .int ln, .int (nI L)])), (sc, aI G 60 F)] H := hP
    have hD : va_D A [(x, .inr (4, [.ref st, .ref tr, .ref ra, .int (nI R), .ref sa, .int tc, .int (nI 0)])), (sa, aS G 4 SA), (sh, .inr (1, [.ref sc, .int ln, .int (nI L)])), (sc, aI G 60 F)] := hD
    refine lv_ldc2 (v := (-9223372036854775808)) hx hb hown (hts (.constantLong RX4 163 (-9223372036854775808)) (List.mem_of_getElem? (i := 2) rfl)) dX4_cell_19 ?_
    exact hret _ _ _ _ _ (by first | with_reducible rfl | (simp only [s_cell, f_cell, iF_f c1]; done) | contradiction) (by first | with_reducible exact hP | (simp only [s_cell, f_cell, iF_f c1]; with_reducible exact hP) | contradiction | (simp only [s_cell, f_cell, iF_f c1]; exact hP) | exact hP) hS dX4_cell_22
  ·
    obtain ⟨jk, hjk, rfl⟩ := vp_in_of c1 (by omega)
    refine lv_iload_n hx hb dX4_cell_7 rfl (lv_at hl 3 rfl) ?_
    refine rdS (As := [.int lane]) (rest := []) hE (kX4_isLane l G lane ) (va_cwS 1 hts gX4_cell_X4_isLane rfl rfl rfl (by decide +kernel) ⟨Nat.le_of_ble_eq_true rfl, Nat.le_of_ble_eq_true rfl⟩) hP hK [] rfl rfl hl.1 rfl (Nat.le_of_ble_eq_true rfl) dX4_cell_8 ⟨Nat.zero_le _, Nat.zero_le _⟩ ?_
    refine W.eq (g2 := F0 m 11 ls [.int (bI (vp_in lane (2 + 1)))]) rfl ?_
    refine bz_ne (tgt := 23) hx hb dX4_cell_11 (by decide) (fun c2 => ?_) (fun c2 => ?_)
    ·
      refine lv_aload_n hx hb dX4_cell_23 rfl (lv_at hl 0 rfl) ?_
      refine lv_aload_n hx hb dX4_cell_24 rfl (lv_at hl 0 rfl) ?_
      refine g_get (v := .ref sa) hx hb hts ixX4_cell_X4 hown hK hP 0 rfl rfl 4 (by decide) lkX4_cell_33 rfl dX4_cell_25 ?_
      refine lv_iload_n hx hb dX4_cell_28 rfl (lv_at hl 1 rfl) ?_
      refine n_aldS hx hb hK hP 1 rfl (k := jk) (x := sh) (by omega) (by decide) (hsh jk (by omega) rfl) dX4_cell_29 ?_
      refine lv_iload_n hx hb dX4_cell_30 rfl (lv_at hl 3 rfl) ?_
      refine lv_iload_n hx hb dX4_cell_31 rfl (lv_at hl 2 rfl) ?_
      refine lv_iconst (v := nI 1) hx hb dX4_cell_32 (by decide) ?_
      refine rdV (As := [.int lane, .int i, .int (nI 1)]) (rest := [.ref x]) (ci := 1) (q0 := 2) hE (kX1_faultOfTaking l G sh sc ln L lane i (nI 1) ) (cwV 3 hts gX4_cell_X1_faultOfTaking rfl rfl rfl (by decide +kernel) ⟨Nat.le_of_ble_eq_true rfl, Nat.le_of_ble_eq_true rfl⟩) hP hK [2] rfl rfl rfl rfl hl.1 rfl (Nat.le_of_ble_eq_true rfl) dX4_cell_33 ⟨Nat.zero_le _, Nat.zero_le _⟩ ?_
      refine W.eq (g2 := F0 m 36 ls [.int (ft (-1) ln L lane i (nI 1)), .ref x]) rfl ?_
      refine g_put (v := (ft (-1) ln L lane i (nI 1))) hx hb hts ixX4_cell_X4 tyX4 tyX4_ok nmX4 hown hK hP hD hS 0 rfl rfl 6 (by decide) lkX4_cell_40 rfl rfl (Nat.le_of_ble_eq_true rfl) dX4_cell_36 (fun H locs hP hD hS => ?_)
      have hP : va_P G.1 vwCl [(x, .inr (4, [.ref st, .ref tr, .ref ra, .int (nI R), .ref sa, .int tc, .int (ft (-1) ln L lane i (nI 1))])), (sa, aS G 4 SA), (sh, .inr (1, [.ref sc, .int ln, .int (nI L)])), (sc, aI G 60 F)] H := hP
      have hD : va_D A [(x, .inr (4, [.ref st, .ref tr, .ref ra, .int (nI R), .ref sa, .int tc, .int (ft (-1) ln L lane i (nI 1))])), (sa, aS G 4 SA), (sh, .inr (1, [.ref sc, .int ln, .int (nI L)])), (sc, aI G 60 F)] := hD
      refine lv_aload_n hx hb dX4_cell_39 rfl (lv_at hl 0 rfl) ?_
      refine g_get (v := .int (ft (-1) ln L lane i (nI 1))) hx hb hts ixX4_cell_X4 hown hK hP 0 rfl rfl 6 (by decide) lkX4_cell_40 rfl dX4_cell_40 ?_
      refine lv_if_eq (tgt := 50) hx hb dX4_cell_43 (by decide) (fun c3 => ?_) (fun c3 => ?_)
      ·
        obtain ⟨ji, hji, rfl⟩ := hc_1 (ft_hc c3).2.2 (by omega)
        refine lv_aload_n hx hb dX4_cell_50 rfl (lv_at hl 0 rfl) ?_
        refine g_get (v := .ref sa) hx hb hts ixX4_cell_X4 hown hK hP 0 rfl rfl 4 (by decide) lkX4_cell_33 rfl dX4_cell_51 ?_
        refine lv_iload_n hx hb dX4_cell_54 rfl (lv_at hl 1 rfl) ?_
        refine n_aldS hx hb hK hP 1 rfl (k := jk) (x := sh) (by omega) (by decide) (hsh jk (by omega) rfl) dX4_cell_55 ?_
        refine g_getN (v := .ref sc) hx hb hts ixX4_cell_X1 hown hK hP 2 rfl rfl 0 (by decide) nkX4_139 rfl dX4_cell_56 ?_
        refine lv_iload_n hx hb dX4_cell_59 rfl (lv_at hl 2 rfl) ?_
        refine n_ald hx hb hK hP 3 rfl (k := ji) (by omega) (by decide) dX4_cell_60 ?_
        refine lv_i2l (v := (F ji).toInt64) hx hb dX4_cell_61 rfl ?_
        exact hret _ _ _ _ _ (by first | with_reducible rfl | (simp only [s_cell, f_cell, iF_t c1, iF_t c2, iF_t c3, tn_nI (show jk < 2 ^ 31 by omega), tn_nI (show ji < 2 ^ 31 by omega)]; done) | contradiction) (by first | with_reducible exact hP | (simp only [s_cell, f_cell, iF_t c1, iF_t c2, iF_t c3, tn_nI (show jk < 2 ^ 31 by omega), tn_nI (show ji < 2 ^ 31 by omega)]; with_reducible exact hP) | contradiction | (simp only [s_cell, f_cell, iF_t c1, iF_t c2, iF_t c3, tn_nI (show jk < 2 ^ 31 by omega), tn_nI (show ji < 2 ^ 31 by omega)]; exact hP) | exact hP) hS dX4_cell_62
      ·
        refine lv_ldc2 (v := (-9223372036854775808)) hx hb hown (hts (.constantLong RX4 163 (-9223372036854775808)) (List.mem_of_getElem? (i := 2) rfl)) dX4_cell_46 ?_
        exact hret _ _ _ _ _ (by first | with_reducible rfl | (simp only [s_cell, f_cell, iF_t c1, iF_t c2, iF_f c3, tn_nI (show jk < 2 ^ 31 by omega)]; done) | contradiction) (by first | with_reducible exact hP | (simp only [s_cell, f_cell, iF_t c1, iF_t c2, iF_f c3, tn_nI (show jk < 2 ^ 31 by omega)]; with_reducible exact hP) | contradiction | (simp only [s_cell, f_cell, iF_t c1, iF_t c2, iF_f c3, tn_nI (show jk < 2 ^ 31 by omega)]; exact hP) | exact hP) hS dX4_cell_49
    ·
      refine lv_aload_n hx hb dX4_cell_14 rfl (lv_at hl 0 rfl) ?_
      refine lv_iconst (v := nI 0) hx hb dX4_cell_15 (by decide) ?_
      refine g_put (v := (nI 0)) hx hb hts ixX4_cell_X4 tyX4 tyX4_ok nmX4 hown hK hP hD hS 0 rfl rfl 6 (by decide) lkX4_cell_40 rfl rfl (Nat.le_of_ble_eq_true rfl) dX4_cell_16 (fun H locs hP hD hS => ?_)
      have hP : va_P G.1 vwCl [(x, .inr (4, [.ref st, .ref tr, .ref ra, .int (nI R), .ref sa, .int tc, .int (nI 0)])), (sa, aS G 4 SA), (sh, .inr (1, [.ref sc, .int ln, .int (nI L)])), (sc, aI G 60 F)] H := hP
      have hD : va_D A [(x, .inr (4, [.ref st, .ref tr, .ref ra, .int (nI R), .ref sa, .int tc, .int (nI 0)])), (sa, aS G 4 SA), (sh, .inr (1, [.ref sc, .int ln, .int (nI L)])), (sc, aI G 60 F)] := hD
      refine lv_ldc2 (v := (-9223372036854775808)) hx hb hown (hts (.constantLong RX4 163 (-9223372036854775808)) (List.mem_of_getElem? (i := 2) rfl)) dX4_cell_19 ?_
      exact hret _ _ _ _ _ (by first | with_reducible rfl | (simp only [s_cell, f_cell, iF_t c1, iF_f c2, tn_nI (show jk < 2 ^ 31 by omega)]; done) | contradiction) (by first | with_reducible exact hP | (simp only [s_cell, f_cell, iF_t c1, iF_f c2, tn_nI (show jk < 2 ^ 31 by omega)]; with_reducible exact hP) | contradiction | (simp only [s_cell, f_cell, iF_t c1, iF_f c2, tn_nI (show jk < 2 ^ 31 by omega)]; exact hP) | exact hP) hS dX4_cell_22

theorem ixX4_copy_X4 : ∀ w ∈ wsX40, w ∈ wsX4_copy := fun _ h => List.mem_cons_of_mem _ (List.mem_append_left _ (List.mem_append_right _ h))
theorem lkX4_copy_33 : Cond.fieldLink RX4 33 (TX4 4).1 (TX4 4).2.1 (TX4 4).2.2.1 ∈ wsX4_copy := List.mem_of_getElem? (i := 1) rfl
theorem ixX4_copy_X1 : ∀ w ∈ wsX10, w ∈ wsX4_copy := fun _ h => List.mem_cons_of_mem _ (List.mem_append_right _ h)
theorem lkX4_copy_40 : Cond.fieldLink RX4 40 (TX4 6).1 (TX4 6).2.1 (TX4 6).2.2.1 ∈ wsX4_copy := List.mem_of_getElem? (i := 2) rfl
set_option maxHeartbeats 4000000 in
set_option maxRecDepth 100000 in
theorem kX4_copy (l : Launch) (G : Gl) (x : Nat) (st : Nat) (tr : Nat) (ra : Nat) (sa : Nat) (R : Nat) (tc : Int32) (fl : Int32) (SA : Nat → Option Nat) (sh : Nat) (sc : Nat) (ln : Int32) (L : Nat) (F : Nat → Int32) (sh2 : Nat) (sc2 : Nat) (ln2 : Int32) (L2 : Nat) (F2 : Nat → Int32) (k : Int32) (i : Int32) (o : Int32) (j : Int32) (n : Int32) (hsh : ∀ j, j < 4 → k = nI j → SA j = some sh) (hso : ∀ j, j < 4 → o = nI j → SA j = some sh2) (hL : L ≤ 60) (hL2 : L2 ≤ 60) : Wt l G yX4_copy wsX4_copy ({ frames := 1, cells := 0, slots := 0, locals := 22 } : Room) [.ref x, .int k, .int i, .int o, .int j, .int n] [(x, .inr (4, [.ref st, .ref tr, .ref ra, .int (nI R), .ref sa, .int tc, .int fl])), (sa, aS G 4 SA), (sh, .inr (1, [.ref sc, .int ln, .int (nI L)])), (sc, aI G 60 F), (sh2, .inr (1, [.ref sc2, .int ln2, .int (nI L2)])), (sc2, aI G 60 F2)] [(x, .inr (4, [.ref st, .ref tr, .ref ra, .int (nI R), .ref sa, .int tc, .int (f_copy (-1) ln ln2 L L2 k o i j n)])), (sa, aS G 4 SA), (sh, .inr (1, [.ref sc, .int ln, .int (nI L)])), (sc, aI G 60 F), (sh2, .inr (1, [.ref sc2, .int ln2, .int (nI L2)])), (sc2, aI G 60 (cpG (-1) ln ln2 L L2 k o i j n (va_cpy F F2 (tn i) (tn j) (tn n)) F2))] (some (.int (s_copy (-1) ln ln2 L L2 k o i j n))) := by
  refine Wt.ofI (cc := cX4_copy) (maxL := 8) (by decide) rfl (Nat.le_of_ble_eq_true rfl) ?_
  intro p e s m below meth c Q A ls hE hP hK hD hS hl hret
  obtain ⟨hx, hb, hml, hown, hts⟩ := id hE
  have hl : lv_has ls 8 [(0, .ref x), (1, .int k), (2, .int i), (3, .int o), (4, .int j), (5, .int n)] := hl
  refine lv_iload_n hx hb dX4_copy_0 rfl (lv_at hl 1 rfl) ?_
  refine rdS (As := [.int k]) (rest := []) hE (kX4_isSheet l G k ) (va_cwS 1 hts gX4_copy_X4_isSheet rfl rfl rfl (by decide +kernel) ⟨Nat.le_of_ble_eq_true rfl, Nat.le_of_ble_eq_true rfl⟩) hP hK [] rfl rfl hl.1 rfl (Nat.le_of_ble_eq_true rfl) dX4_copy_1 ⟨Nat.zero_le _, Nat.zero_le _⟩ ?_
  refine W.eq (g2 := F0 m 4 ls [.int (bI (vp_in k 4))]) rfl ?_
  refine bz_eq (tgt := 14) hx hb dX4_copy_4 (by decide) (fun c1 => ?_) (fun c1 => ?_)
  ·
    refine lv_aload_n hx hb dX4_copy_14 rfl (lv_at hl 0 rfl) ?_
    refine lv_iconst (v := (-1)) hx hb dX4_copy_15 (by decide) ?_
    refine wtV (As := [.int (-1)]) (rest := []) (ci := 4) (q0 := 0) hE (kX4_refused l G x st tr ra sa R tc fl (-1) ) (cwV 1 hts gX4_copy_X4_refused rfl rfl rfl (by decide +kernel) ⟨Nat.le_of_ble_eq_true rfl, Nat.le_of_ble_eq_true rfl⟩) hP hK hD hS [0] (by decide) rfl (Eq.trans (b := [x]) rfl rfl) (W1 := [(x, .inr (4, [.ref st, .ref tr, .ref ra, .int (nI R), .ref sa, .int tc, .int (nI 0)])), (sa, aS G 4 SA), (sh, .inr (1, [.ref sc, .int ln, .int (nI L)])), (sc, aI G 60 F), (sh2, .inr (1, [.ref sc2, .int ln2, .int (nI L2)])), (sc2, aI G 60 F2)]) rfl rfl rfl rfl hl.1 rfl (Nat.le_of_ble_eq_true rfl) dX4_copy_16 ⟨Nat.zero_le _, Nat.zero_le _⟩ (fun H locs hP hD hS => ?_)
    refine W.eq (g2 := F0 m 19 ls [.int (-1)]) rfl ?_
    exact hret _ _ _ _ _ (by first | with_reducible rfl | (simp only [s_copy, f_copy, cpG, iF_f c1]; done) | contradiction) (by first | with_reducible exact hP | (simp only [s_copy, f_copy, cpG, iF_f c1]; with_reducible exact hP) | contradiction | (simp only [s_copy, f_copy, cpG, iF_f c1]; exact hP) | exact hP) hS dX4_copy_19
  ·
    obtain ⟨jk, hjk, rfl⟩ := vp_in_of c1 (by omega)
    refine lv_iload_n hx hb dX4_copy_7 rfl (lv_at hl 3 rfl) ?_
    refine rdS (As := [.int o]) (rest := []) hE (kX4_isSheet l G o ) (va_cwS 1 hts gX4_copy_X4_isSheet rfl rfl rfl (by decide +kernel) ⟨Nat.le_of_ble_eq_true rfl, Nat.le_of_ble_eq_true rfl⟩) hP hK [] rfl rfl hl.1 rfl (Nat.le_of_ble_eq_true rfl) dX4_copy_8 ⟨Nat.zero_le _, Nat.zero_le _⟩ ?_
    refine W.eq (g2 := F0 m 11 ls [.int (bI (vp_in o 4))]) rfl ?_
    refine bz_ne (tgt := 20) hx hb dX4_copy_11 (by decide) (fun c2 => ?_) (fun c2 => ?_)
    ·
      obtain ⟨jo, hjo, rfl⟩ := vp_in_of c2 (by omega)
      refine lv_aload_n hx hb dX4_copy_20 rfl (lv_at hl 0 rfl) ?_
      refine g_get (v := .ref sa) hx hb hts ixX4_copy_X4 hown hK hP 0 rfl rfl 4 (by decide) lkX4_copy_33 rfl dX4_copy_21 ?_
      refine lv_iload_n hx hb dX4_copy_24 rfl (lv_at hl 1 rfl) ?_
      refine n_aldS hx hb hK hP 1 rfl (k := jk) (x := sh) (by omega) (by decide) (hsh jk (by omega) rfl) dX4_copy_25 ?_
      refine lv_astore (lv' := [(6, .ref sh), (0, .ref x), (1, .int (nI jk)), (2, .int i), (3, .int (nI jo)), (4, .int j), (5, .int n)]) hx hb dX4_copy_26 hl (by decide) rfl (fun ls hl => ?_)
      refine lv_aload_n hx hb dX4_copy_28 rfl (lv_at hl 1 rfl) ?_
      refine g_get (v := .ref sa) hx hb hts ixX4_copy_X4 hown hK hP 0 rfl rfl 4 (by decide) lkX4_copy_33 rfl dX4_copy_29 ?_
      refine lv_iload_n hx hb dX4_copy_32 rfl (lv_at hl 4 rfl) ?_
      refine n_aldS hx hb hK hP 1 rfl (k := jo) (x := sh2) (by omega) (by decide) (hso jo (by omega) rfl) dX4_copy_33 ?_
      refine lv_astore (lv' := [(7, .ref sh2), (6, .ref sh), (0, .ref x), (1, .int (nI jk)), (2, .int i), (3, .int (nI jo)), (4, .int j), (5, .int n)]) hx hb dX4_copy_34 hl (by decide) rfl (fun ls hl => ?_)
      refine lv_aload hx hb dX4_copy_36 (lv_at hl 1 rfl) ?_
      refine rdV (As := []) (rest := []) (ci := 1) (q0 := 2) hE (kX1_hasNothing l G sh sc ln L ) (cwV 0 hts gX4_copy_X1_hasNothing rfl rfl rfl (by decide +kernel) ⟨Nat.le_of_ble_eq_true rfl, Nat.le_of_ble_eq_true rfl⟩) hP hK [2] rfl rfl rfl rfl hl.1 rfl (Nat.le_of_ble_eq_true rfl) dX4_copy_38 ⟨Nat.zero_le _, Nat.zero_le _⟩ ?_
      refine W.eq (g2 := F0 m 41 ls [.int (bI (ln = (-1)))]) rfl ?_
      refine bz_ne (tgt := 52) hx hb dX4_copy_41 (by decide) (fun c3 => ?_) (fun c3 => ?_)
      ·
        refine lv_aload_n hx hb dX4_copy_52 rfl (lv_at hl 2 rfl) ?_
        refine lv_iconst (v := nI 1) hx hb dX4_copy_53 (by decide) ?_
        refine wtV (As := [.int (nI 1)]) (rest := []) (ci := 4) (q0 := 0) hE (kX4_faulted l G x st tr ra sa R tc fl (nI 1) ) (cwV 1 hts gX4_copy_X4_faulted rfl rfl rfl (by decide +kernel) ⟨Nat.le_of_ble_eq_true rfl, Nat.le_of_ble_eq_true rfl⟩) hP hK hD hS [0] (by decide) rfl (Eq.trans (b := [x]) rfl rfl) (W1 := [(x, .inr (4, [.ref st, .ref tr, .ref ra, .int (nI R), .ref sa, .int tc, .int (nI 1)])), (sa, aS G 4 SA), (sh, .inr (1, [.ref sc, .int ln, .int (nI L)])), (sc, aI G 60 F), (sh2, .inr (1, [.ref sc2, .int ln2, .int (nI L2)])), (sc2, aI G 60 F2)]) rfl rfl rfl rfl hl.1 rfl (Nat.le_of_ble_eq_true rfl) dX4_copy_54 ⟨Nat.zero_le _, Nat.zero_le _⟩ (fun H locs hP hD hS => ?_)
        refine W.eq (g2 := F0 m 57 ls [.int ((-10) - (nI 1))]) rfl ?_
        exact hret _ _ _ _ _ (by first | with_reducible rfl | (simp only [s_copy, f_copy, cpG, iF_t c1, iF_t c2, iF_t c3, tn_nI (show jk < 2 ^ 31 by omega), tn_nI (show jo < 2 ^ 31 by omega)]; done) | contradiction) (by first | with_reducible exact hP | (simp only [s_copy, f_copy, cpG, iF_t c1, iF_t c2, iF_t c3, tn_nI (show jk < 2 ^ 31 by omega), tn_nI (show jo < 2 ^ 31 by omega)]; with_reducible exact hP) | contradiction | (simp only [s_copy, f_copy, cpG, iF_t c1, iF_t c2, iF_t c3, tn_nI (show jk < 2 ^ 31 by omega), tn_nI (show jo < 2 ^ 31 by omega)]; exact hP) | exact hP) hS dX4_copy_57
      ·
        refine lv_aload hx hb dX4_copy_44 (lv_at hl 0 rfl) ?_
        refine rdV (As := []) (rest := []) (ci := 1) (q0 := 4) hE (kX1_hasNothing l G sh2 sc2 ln2 L2 ) (cwV 0 hts gX4_copy_X1_hasNothing rfl rfl rfl (by decide +kernel) ⟨Nat.le_of_ble_eq_true rfl, Nat.le_of_ble_eq_true rfl⟩) hP hK [4] rfl rfl rfl rfl hl.1 rfl (Nat.le_of_ble_eq_true rfl) dX4_copy_46 ⟨Nat.zero_le _, Nat.zero_le _⟩ ?_
        refine W.eq (g2 := F0 m 49 ls [.int (bI (ln2 = (-1)))]) rfl ?_
        refine bz_eq (tgt := 58) hx hb dX4_copy_49 (by decide) (fun c4 => ?_) (fun c4 => ?_)
        ·
          refine lv_aload hx hb dX4_copy_58 (lv_at hl 1 rfl) ?_
          refine g_getN (v := .int ln) hx hb hts ixX4_copy_X1 hown hK hP 2 rfl rfl 1 (by decide) nkX4_183 rfl dX4_copy_60 ?_
          refine lv_aload hx hb dX4_copy_63 (lv_at hl 0 rfl) ?_
          refine g_getN (v := .int ln2) hx hb hts ixX4_copy_X1 hown hK hP 4 rfl rfl 1 (by decide) nkX4_183 rfl dX4_copy_65 ?_
          refine lv_icmp_eq (tgt := 77) hx hb dX4_copy_68 (by decide) (fun c5 => ?_) (fun c5 => ?_)
          ·
            refine lv_aload hx hb dX4_copy_77 (lv_at hl 1 rfl) ?_
            refine lv_iload_n hx hb dX4_copy_79 rfl (lv_at hl 4 rfl) ?_
            refine lv_iload hx hb dX4_copy_80 (lv_at hl 7 rfl) ?_
            refine rdV (As := [.int i, .int n]) (rest := []) (ci := 1) (q0 := 2) hE (kX1_hasCells l G sh sc ln L i n ) (cwV 2 hts gX4_copy_X1_hasCells rfl rfl rfl (by decide +kernel) ⟨Nat.le_of_ble_eq_true rfl, Nat.le_of_ble_eq_true rfl⟩) hP hK [2] rfl rfl rfl rfl hl.1 rfl (Nat.le_of_ble_eq_true rfl) dX4_copy_82 ⟨Nat.zero_le _, Nat.zero_le _⟩ ?_
            refine W.eq (g2 := F0 m 85 ls [.int (bI (hc L i n))]) rfl ?_
            refine bz_eq (tgt := 100) hx hb dX4_copy_85 (by decide) (fun c6 => ?_) (fun c6 => ?_)
            ·
              refine lv_aload_n hx hb dX4_copy_100 rfl (lv_at hl 2 rfl) ?_
              refine lv_iconst (v := nI 3) hx hb dX4_copy_101 (by decide) ?_
              refine wtV (As := [.int (nI 3)]) (rest := []) (ci := 4) (q0 := 0) hE (kX4_faulted l G x st tr ra sa R tc fl (nI 3) ) (cwV 1 hts gX4_copy_X4_faulted rfl rfl rfl (by decide +kernel) ⟨Nat.le_of_ble_eq_true rfl, Nat.le_of_ble_eq_true rfl⟩) hP hK hD hS [0] (by decide) rfl (Eq.trans (b := [x]) rfl rfl) (W1 := [(x, .inr (4, [.ref st, .ref tr, .ref ra, .int (nI R), .ref sa, .int tc, .int (nI 3)])), (sa, aS G 4 SA), (sh, .inr (1, [.ref sc, .int ln, .int (nI L)])), (sc, aI G 60 F), (sh2, .inr (1, [.ref sc2, .int ln2, .int (nI L2)])), (sc2, aI G 60 F2)]) rfl rfl rfl rfl hl.1 rfl (Nat.le_of_ble_eq_true rfl) dX4_copy_102 ⟨Nat.zero_le _, Nat.zero_le _⟩ (fun H locs hP hD hS => ?_)
              refine W.eq (g2 := F0 m 105 ls [.int ((-10) - (nI 3))]) rfl ?_
              exact hret _ _ _ _ _ (by first | with_reducible rfl | (simp only [s_copy, f_copy, cpG, iF_t c1, iF_t c2, iF_f c3, iF_f c4, iF_t c5, iF_f c6, iF_f (fun h : _ ∧ _ => c6 h.1), tn_nI (show jk < 2 ^ 31 by omega), tn_nI (show jo < 2 ^ 31 by omega)]; done) | contradiction) (by first | with_reducible exact hP | (simp only [s_copy, f_copy, cpG, iF_t c1, iF_t c2, iF_f c3, iF_f c4, iF_t c5, iF_f c6, iF_f (fun h : _ ∧ _ => c6 h.1), tn_nI (show jk < 2 ^ 31 by omega), tn_nI (show jo < 2 ^ 31 by omega)]; with_reducible exact hP) | contradiction | (simp only [s_copy, f_copy, cpG, iF_t c1, iF_t c2, iF_f c3, iF_f c4, iF_t c5, iF_f c6, iF_f (fun h : _ ∧ _ => c6 h.1), tn_nI (show jk < 2 ^ 31 by omega), tn_nI (show jo < 2 ^ 31 by omega)]; exact hP) | exact hP) hS dX4_copy_105
            ·
              refine lv_aload hx hb dX4_copy_88 (lv_at hl 0 rfl) ?_
              refine lv_iload hx hb dX4_copy_90 (lv_at hl 6 rfl) ?_
              refine lv_iload hx hb dX4_copy_92 (lv_at hl 7 rfl) ?_
              refine rdV (As := [.int j, .int n]) (rest := []) (ci := 1) (q0 := 4) hE (kX1_hasCells l G sh2 sc2 ln2 L2 j n ) (cwV 2 hts gX4_copy_X1_hasCells rfl rfl rfl (by decide +kernel) ⟨Nat.le_of_ble_eq_true rfl, Nat.le_of_ble_eq_true rfl⟩) hP hK [4] rfl rfl rfl rfl hl.1 rfl (Nat.le_of_ble_eq_true rfl) dX4_copy_94 ⟨Nat.zero_le _, Nat.zero_le _⟩ ?_
              refine W.eq (g2 := F0 m 97 ls [.int (bI (hc L2 j n))]) rfl ?_
              refine bz_ne (tgt := 106) hx hb dX4_copy_97 (by decide) (fun c7 => ?_) (fun c7 => ?_)
              ·
                have h99 := And.intro c6 c7
                obtain ⟨ji, jn, rfl, rfl, hin9⟩ := hc_of c6 (by omega)
                obtain ⟨jj, jn2, rfl, en2, hjn9⟩ := hc_of c7 (by omega)
                have hn29 : jn = jn2 := (nI_eq (by omega) (by omega)).mp en2
                refine lv_aload_n hx hb dX4_copy_106 rfl (lv_at hl 2 rfl) ?_
                refine lv_iconst (v := nI 0) hx hb dX4_copy_107 (by decide) ?_
                refine g_put (v := (nI 0)) hx hb hts ixX4_copy_X4 tyX4 tyX4_ok nmX4 hown hK hP hD hS 0 rfl rfl 6 (by decide) lkX4_copy_40 rfl rfl (Nat.le_of_ble_eq_true rfl) dX4_copy_108 (fun H locs hP hD hS => ?_)
                have hP : va_P G.1 vwCl [(x, .inr (4, [.ref st, .ref tr, .ref ra, .int (nI R), .ref sa, .int tc, .int (nI 0)])), (sa, aS G 4 SA), (sh, .inr (1, [.ref sc, .int ln, .int (nI L)])), (sc, aI G 60 F), (sh2, .inr (1, [.ref sc2, .int ln2, .int (nI L2)])), (sc2, aI G 60 F2)] H := hP
                have hD : va_D A [(x, .inr (4, [.ref st, .ref tr, .ref ra, .int (nI R), .ref sa, .int tc, .int (nI 0)])), (sa, aS G 4 SA), (sh, .inr (1, [.ref sc, .int ln, .int (nI L)])), (sc, aI G 60 F), (sh2, .inr (1, [.ref sc2, .int ln2, .int (nI L2)])), (sc2, aI G 60 F2)] := hD
                refine lv_aload hx hb dX4_copy_111 (lv_at hl 1 rfl) ?_
                refine g_getN (v := .ref sc) hx hb hts ixX4_copy_X1 hown hK hP 2 rfl rfl 0 (by decide) nkX4_139 rfl dX4_copy_113 ?_
                refine lv_iload_n hx hb dX4_copy_116 rfl (lv_at hl 4 rfl) ?_
                refine lv_aload hx hb dX4_copy_117 (lv_at hl 0 rfl) ?_
                refine g_getN (v := .ref sc2) hx hb hts ixX4_copy_X1 hown hK hP 4 rfl rfl 0 (by decide) nkX4_139 rfl dX4_copy_119 ?_
                refine lv_iload hx hb dX4_copy_122 (lv_at hl 6 rfl) ?_
                refine lv_iload hx hb dX4_copy_124 (lv_at hl 7 rfl) ?_
                refine n_copy hx hb hml hts hown (List.mem_of_getElem? (i := 3) rfl) (List.mem_of_getElem? (i := 4) rfl) (List.mem_of_getElem? (i := 5) rfl) (List.mem_of_getElem? (i := 6) rfl) hK hP hD hS 3 5 rfl rfl (sp := ji) (dp := jj) (n := jn) (by omega) (by omega) (by decide) (by decide) hl.1 (Nat.le_of_ble_eq_true rfl) (Nat.le_of_ble_eq_true rfl) dX4_copy_126 (fun H locs hP hD hS => ?_)
                have hP : va_P G.1 vwCl [(x, .inr (4, [.ref st, .ref tr, .ref ra, .int (nI R), .ref sa, .int tc, .int (nI 0)])), (sa, aS G 4 SA), (sh, .inr (1, [.ref sc, .int ln, .int (nI L)])), (sc, aI G 60 F), (sh2, .inr (1, [.ref sc2, .int ln2, .int (nI L2)])), (sc2, aI G 60 (va_cpy F F2 ji jj jn))] H := hP
                have hD : va_D A [(x, .inr (4, [.ref st, .ref tr, .ref ra, .int (nI R), .ref sa, .int tc, .int (nI 0)])), (sa, aS G 4 SA), (sh, .inr (1, [.ref sc, .int ln, .int (nI L)])), (sc, aI G 60 F), (sh2, .inr (1, [.ref sc2, .int ln2, .int (nI L2)])), (sc2, aI G 60 (va_cpy F F2 ji jj jn))] := hD
                refine lv_iload hx hb dX4_copy_129 (lv_at hl 7 rfl) ?_
                exact hret _ _ _ _ _ (by first | with_reducible rfl | (simp only [s_copy, f_copy, cpG, iF_t c1, iF_t c2, iF_f c3, iF_f c4, iF_t c5, iF_t c6, iF_t c7, iF_t h99, tn_nI (show jk < 2 ^ 31 by omega), tn_nI (show jo < 2 ^ 31 by omega), tn_nI (show ji < 2 ^ 31 by omega), tn_nI (show jn < 2 ^ 31 by omega), tn_nI (show jj < 2 ^ 31 by omega)]; done) | contradiction) (by first | with_reducible exact hP | (simp only [s_copy, f_copy, cpG, iF_t c1, iF_t c2, iF_f c3, iF_f c4, iF_t c5, iF_t c6, iF_t c7, iF_t h99, tn_nI (show jk < 2 ^ 31 by omega), tn_nI (show jo < 2 ^ 31 by omega), tn_nI (show ji < 2 ^ 31 by omega), tn_nI (show jn < 2 ^ 31 by omega), tn_nI (show jj < 2 ^ 31 by omega)]; with_reducible exact hP) | contradiction | (simp only [s_copy, f_copy, cpG, iF_t c1, iF_t c2, iF_f c3, iF_f c4, iF_t c5, iF_t c6, iF_t c7, iF_t h99, tn_nI (show jk < 2 ^ 31 by omega), tn_nI (show jo < 2 ^ 31 by omega), tn_nI (show ji < 2 ^ 31 by omega), tn_nI (show jn < 2 ^ 31 by omega), tn_nI (show jj < 2 ^ 31 by omega)]; exact hP) | exact hP) hS dX4_copy_131
              ·
                refine lv_aload_n hx hb dX4_copy_100 rfl (lv_at hl 2 rfl) ?_
                refine lv_iconst (v := nI 3) hx hb dX4_copy_101 (by decide) ?_
                refine wtV (As := [.int (nI 3)]) (rest := []) (ci := 4) (q0 := 0) hE (kX4_faulted l G x st tr ra sa R tc fl (nI 3) ) (cwV 1 hts gX4_copy_X4_faulted rfl rfl rfl (by decide +kernel) ⟨Nat.le_of_ble_eq_true rfl, Nat.le_of_ble_eq_true rfl⟩) hP hK hD hS [0] (by decide) rfl (Eq.trans (b := [x]) rfl rfl) (W1 := [(x, .inr (4, [.ref st, .ref tr, .ref ra, .int (nI R), .ref sa, .int tc, .int (nI 3)])), (sa, aS G 4 SA), (sh, .inr (1, [.ref sc, .int ln, .int (nI L)])), (sc, aI G 60 F), (sh2, .inr (1, [.ref sc2, .int ln2, .int (nI L2)])), (sc2, aI G 60 F2)]) rfl rfl rfl rfl hl.1 rfl (Nat.le_of_ble_eq_true rfl) dX4_copy_102 ⟨Nat.zero_le _, Nat.zero_le _⟩ (fun H locs hP hD hS => ?_)
                refine W.eq (g2 := F0 m 105 ls [.int ((-10) - (nI 3))]) rfl ?_
                exact hret _ _ _ _ _ (by first | with_reducible rfl | (simp only [s_copy, f_copy, cpG, iF_t c1, iF_t c2, iF_f c3, iF_f c4, iF_t c5, iF_t c6, iF_f c7, iF_f (fun h : _ ∧ _ => c7 h.2), tn_nI (show jk < 2 ^ 31 by omega), tn_nI (show jo < 2 ^ 31 by omega)]; done) | contradiction) (by first | with_reducible exact hP | (simp only [s_copy, f_copy, cpG, iF_t c1, iF_t c2, iF_f c3, iF_f c4, iF_t c5, iF_t c6, iF_f c7, iF_f (fun h : _ ∧ _ => c7 h.2), tn_nI (show jk < 2 ^ 31 by omega), tn_nI (show jo < 2 ^ 31 by omega)]; with_reducible exact hP) | contradiction | (simp only [s_copy, f_copy, cpG, iF_t c1, iF_t c2, iF_f c3, iF_f c4, iF_t c5, iF_t c6, iF_f c7, iF_f (fun h : _ ∧ _ => c7 h.2), tn_nI (show jk < 2 ^ 31 by omega), tn_nI (show jo < 2 ^ 31 by omega)]; exact hP) | exact hP) hS dX4_copy_105
          ·
            refine lv_aload_n hx hb dX4_copy_71 rfl (lv_at hl 2 rfl) ?_
            refine lv_iconst (v := nI 2) hx hb dX4_copy_72 (by decide) ?_
            refine wtV (As := [.int (nI 2)]) (rest := []) (ci := 4) (q0 := 0) hE (kX4_faulted l G x st tr ra sa R tc fl (nI 2) ) (cwV 1 hts gX4_copy_X4_faulted rfl rfl rfl (by decide +kernel) ⟨Nat.le_of_ble_eq_true rfl, Nat.le_of_ble_eq_true rfl⟩) hP hK hD hS [0] (by decide) rfl (Eq.trans (b := [x]) rfl rfl) (W1 := [(x, .inr (4, [.ref st, .ref tr, .ref ra, .int (nI R), .ref sa, .int tc, .int (nI 2)])), (sa, aS G 4 SA), (sh, .inr (1, [.ref sc, .int ln, .int (nI L)])), (sc, aI G 60 F), (sh2, .inr (1, [.ref sc2, .int ln2, .int (nI L2)])), (sc2, aI G 60 F2)]) rfl rfl rfl rfl hl.1 rfl (Nat.le_of_ble_eq_true rfl) dX4_copy_73 ⟨Nat.zero_le _, Nat.zero_le _⟩ (fun H locs hP hD hS => ?_)
            refine W.eq (g2 := F0 m 76 ls [.int ((-10) - (nI 2))]) rfl ?_
            exact hret _ _ _ _ _ (by first | with_reducible rfl | (simp only [s_copy, f_copy, cpG, iF_t c1, iF_t c2, iF_f c3, iF_f c4, iF_f c5, tn_nI (show jk < 2 ^ 31 by omega), tn_nI (show jo < 2 ^ 31 by omega)]; done) | contradiction) (by first | with_reducible exact hP | (simp only [s_copy, f_copy, cpG, iF_t c1, iF_t c2, iF_f c3, iF_f c4, iF_f c5, tn_nI (show jk < 2 ^ 31 by omega), tn_nI (show jo < 2 ^ 31 by omega)]; with_reducible exact hP) | contradiction | (simp only [s_copy, f_copy, cpG, iF_t c1, iF_t c2, iF_f c3, iF_f c4, iF_f c5, tn_nI (show jk < 2 ^ 31 by omega), tn_nI (show jo < 2 ^ 31 by omega)]; exact hP) | exact hP) hS dX4_copy_76
        ·
          refine lv_aload_n hx hb dX4_copy_52 rfl (lv_at hl 2 rfl) ?_
          refine lv_iconst (v := nI 1) hx hb dX4_copy_53 (by decide) ?_
          refine wtV (As := [.int (nI 1)]) (rest := []) (ci := 4) (q0 := 0) hE (kX4_faulted l G x st tr ra sa R tc fl (nI 1) ) (cwV 1 hts gX4_copy_X4_faulted rfl rfl rfl (by decide +kernel) ⟨Nat.le_of_ble_eq_true rfl, Nat.le_of_ble_eq_true rfl⟩) hP hK hD hS [0] (by decide) rfl (Eq.trans (b := [x]) rfl rfl) (W1 := [(x, .inr (4, [.ref st, .ref tr, .ref ra, .int (nI R), .ref sa, .int tc, .int (nI 1)])), (sa, aS G 4 SA), (sh, .inr (1, [.ref sc, .int ln, .int (nI L)])), (sc, aI G 60 F), (sh2, .inr (1, [.ref sc2, .int ln2, .int (nI L2)])), (sc2, aI G 60 F2)]) rfl rfl rfl rfl hl.1 rfl (Nat.le_of_ble_eq_true rfl) dX4_copy_54 ⟨Nat.zero_le _, Nat.zero_le _⟩ (fun H locs hP hD hS => ?_)
          refine W.eq (g2 := F0 m 57 ls [.int ((-10) - (nI 1))]) rfl ?_
          exact hret _ _ _ _ _ (by first | with_reducible rfl | (simp only [s_copy, f_copy, cpG, iF_t c1, iF_t c2, iF_f c3, iF_t c4, tn_nI (show jk < 2 ^ 31 by omega), tn_nI (show jo < 2 ^ 31 by omega)]; done) | contradiction) (by first | with_reducible exact hP | (simp only [s_copy, f_copy, cpG, iF_t c1, iF_t c2, iF_f c3, iF_t c4, tn_nI (show jk < 2 ^ 31 by omega), tn_nI (show jo < 2 ^ 31 by omega)]; with_reducible exact hP) | contradiction | (simp only [s_copy, f_copy, cpG, iF_t c1, iF_t c2, iF_f c3, iF_t c4, tn_nI (show jk < 2 ^ 31 by omega), tn_nI (show jo < 2 ^ 31 by omega)]; exact hP) | exact hP) hS dX4_copy_57
    ·
      refine lv_aload_n hx hb dX4_copy_14 rfl (lv_at hl 0 rfl) ?_
      refine lv_iconst (v := (-1)) hx hb dX4_copy_15 (by decide) ?_
      refine wtV (As := [.int (-1)]) (rest := []) (ci := 4) (q0 := 0) hE (kX4_refused l G x st tr ra sa R tc fl (-1) ) (cwV 1 hts gX4_copy_X4_refused rfl rfl rfl (by decide +kernel) ⟨Nat.le_of_ble_eq_true rfl, Nat.le_of_ble_eq_true rfl⟩) hP hK hD hS [0] (by decide) rfl (Eq.trans (b := [x]) rfl rfl) (W1 := [(x, .inr (4, [.ref st, .ref tr, .ref ra, .int (nI R), .ref sa, .int tc, .int (nI 0)])), (sa, aS G 4 SA), (sh, .inr (1, [.ref sc, .int ln, .int (nI L)])), (sc, aI G 60 F), (sh2, .inr (1, [.ref sc2, .int ln2, .int (nI L2)])), (sc2, aI G 60 F2)]) rfl rfl rfl rfl hl.1 rfl (Nat.le_of_ble_eq_true rfl) dX4_copy_16 ⟨Nat.zero_le _, Nat.zero_le _⟩ (fun H locs hP hD hS => ?_)
      refine W.eq (g2 := F0 m 19 ls [.int (-1)]) rfl ?_
      exact hret _ _ _ _ _ (by first | with_reducible rfl | (simp only [s_copy, f_copy, cpG, iF_t c1, iF_f c2, tn_nI (show jk < 2 ^ 31 by omega)]; done) | contradiction) (by first | with_reducible exact hP | (simp only [s_copy, f_copy, cpG, iF_t c1, iF_f c2, tn_nI (show jk < 2 ^ 31 by omega)]; with_reducible exact hP) | contradiction | (simp only [s_copy, f_copy, cpG, iF_t c1, iF_f c2, tn_nI (show jk < 2 ^ 31 by omega)]; exact hP) | exact hP) hS dX4_copy_19

set_option maxHeartbeats 4000000 in
set_option maxRecDepth 100000 in
theorem kX4_copy1 (l : Launch) (G : Gl) (x : Nat) (st : Nat) (tr : Nat) (ra : Nat) (sa : Nat) (R : Nat) (tc : Int32) (fl : Int32) (SA : Nat → Option Nat) (sh : Nat) (sc : Nat) (ln : Int32) (L : Nat) (F : Nat → Int32) (k : Int32) (i : Int32) (j : Int32) (n : Int32) (hsh : ∀ j, j < 4 → k = nI j → SA j = some sh) (hL : L ≤ 60) : Wt l G yX4_copy wsX4_copy ({ frames := 1, cells := 0, slots := 0, locals := 22 } : Room) [.ref x, .int k, .int i, .int k, .int j, .int n] [(x, .inr (4, [.ref st, .ref tr, .ref ra, .int (nI R), .ref sa, .int tc, .int fl])), (sa, aS G 4 SA), (sh, .inr (1, [.ref sc, .int ln, .int (nI L)])), (sc, aI G 60 F)] [(x, .inr (4, [.ref st, .ref tr, .ref ra, .int (nI R), .ref sa, .int tc, .int (f_copy (-1) ln ln L L k k i j n)])), (sa, aS G 4 SA), (sh, .inr (1, [.ref sc, .int ln, .int (nI L)])), (sc, aI G 60 (cpG (-1) ln ln L L k k i j n (va_cpy F F (tn i) (tn j) (tn n)) F))] (some (.int (s_copy (-1) ln ln L L k k i j n))) := by
  refine Wt.ofI (cc := cX4_copy) (maxL := 8) (by decide) rfl (Nat.le_of_ble_eq_true rfl) ?_
  intro p e s m below meth c Q A ls hE hP hK hD hS hl hret
  obtain ⟨hx, hb, hml, hown, hts⟩ := id hE
  have hl : lv_has ls 8 [(0, .ref x), (1, .int k), (2, .int i), (3, .int k), (4, .int j), (5, .int n)] := hl
  refine lv_iload_n hx hb dX4_copy_0 rfl (lv_at hl 1 rfl) ?_
  refine rdS (As := [.int k]) (rest := []) hE (kX4_isSheet l G k ) (va_cwS 1 hts gX4_copy_X4_isSheet rfl rfl rfl (by decide +kernel) ⟨Nat.le_of_ble_eq_true rfl, Nat.le_of_ble_eq_true rfl⟩) hP hK [] rfl rfl hl.1 rfl (Nat.le_of_ble_eq_true rfl) dX4_copy_1 ⟨Nat.zero_le _, Nat.zero_le _⟩ ?_
  refine W.eq (g2 := F0 m 4 ls [.int (bI (vp_in k 4))]) rfl ?_
  refine bz_eq (tgt := 14) hx hb dX4_copy_4 (by decide) (fun c1 => ?_) (fun c1 => ?_)
  ·
    refine lv_aload_n hx hb dX4_copy_14 rfl (lv_at hl 0 rfl) ?_
    refine lv_iconst (v := (-1)) hx hb dX4_copy_15 (by decide) ?_
    refine wtV (As := [.int (-1)]) (rest := []) (ci := 4) (q0 := 0) hE (kX4_refused l G x st tr ra sa R tc fl (-1) ) (cwV 1 hts gX4_copy_X4_refused rfl rfl rfl (by decide +kernel) ⟨Nat.le_of_ble_eq_true rfl, Nat.le_of_ble_eq_true rfl⟩) hP hK hD hS [0] (by decide) rfl (Eq.trans (b := [x]) rfl rfl) (W1 := [(x, .inr (4, [.ref st, .ref tr, .ref ra, .int (nI R), .ref sa, .int tc, .int (nI 0)])), (sa, aS G 4 SA), (sh, .inr (1, [.ref sc, .int ln, .int (nI L)])), (sc, aI G 60 F)]) rfl rfl rfl rfl hl.1 rfl (Nat.le_of_ble_eq_true rfl) dX4_copy_16 ⟨Nat.zero_le _, Nat.zero_le _⟩ (fun H locs hP hD hS => ?_)
    refine W.eq (g2 := F0 m 19 ls [.int (-1)]) rfl ?_
    exact hret _ _ _ _ _ (by first | with_reducible rfl | (simp only [s_copy, f_copy, cpG, iF_t True.intro, iF_f c1]; done) | contradiction) (by first | with_reducible exact hP | (simp only [s_copy, f_copy, cpG, iF_t True.intro, iF_f c1]; with_reducible exact hP) | contradiction | (simp only [s_copy, f_copy, cpG, iF_t True.intro, iF_f c1]; exact hP) | exact hP) hS dX4_copy_19
  ·
    obtain ⟨jk, hjk, rfl⟩ := vp_in_of c1 (by omega)
    refine lv_iload_n hx hb dX4_copy_7 rfl (lv_at hl 3 rfl) ?_
    refine rdS (As := [.int (nI jk)]) (rest := []) hE (kX4_isSheet l G (nI jk) ) (va_cwS 1 hts gX4_copy_X4_isSheet rfl rfl rfl (by decide +kernel) ⟨Nat.le_of_ble_eq_true rfl, Nat.le_of_ble_eq_true rfl⟩) hP hK [] rfl rfl hl.1 rfl (Nat.le_of_ble_eq_true rfl) dX4_copy_8 ⟨Nat.zero_le _, Nat.zero_le _⟩ ?_
    refine W.eq (g2 := F0 m 11 ls [.int (bI (vp_in (nI jk) 4))]) rfl ?_
    refine bz_ne (tgt := 20) hx hb dX4_copy_11 (by decide) (fun c2 => ?_) (fun c2 => ?_)
    ·
      refine lv_aload_n hx hb dX4_copy_20 rfl (lv_at hl 0 rfl) ?_
      refine g_get (v := .ref sa) hx hb hts ixX4_copy_X4 hown hK hP 0 rfl rfl 4 (by decide) lkX4_copy_33 rfl dX4_copy_21 ?_
      refine lv_iload_n hx hb dX4_copy_24 rfl (lv_at hl 1 rfl) ?_
      refine n_aldS hx hb hK hP 1 rfl (k := jk) (x := sh) (by omega) (by decide) (hsh jk (by omega) rfl) dX4_copy_25 ?_
      refine lv_astore (lv' := [(6, .ref sh), (0, .ref x), (1, .int (nI jk)), (2, .int i), (3, .int (nI jk)), (4, .int j), (5, .int n)]) hx hb dX4_copy_26 hl (by decide) rfl (fun ls hl => ?_)
      refine lv_aload_n hx hb dX4_copy_28 rfl (lv_at hl 1 rfl) ?_
      refine g_get (v := .ref sa) hx hb hts ixX4_copy_X4 hown hK hP 0 rfl rfl 4 (by decide) lkX4_copy_33 rfl dX4_copy_29 ?_
      refine lv_iload_n hx hb dX4_copy_32 rfl (lv_at hl 4 rfl) ?_
      refine n_aldS hx hb hK hP 1 rfl (k := jk) (x := sh) (by omega) (by decide) (hsh jk (by omega) rfl) dX4_copy_33 ?_
      refine lv_astore (lv' := [(7, .ref sh), (6, .ref sh), (0, .ref x), (1, .int (nI jk)), (2, .int i), (3, .int (nI jk)), (4, .int j), (5, .int n)]) hx hb dX4_copy_34 hl (by decide) rfl (fun ls hl => ?_)
      refine lv_aload hx hb dX4_copy_36 (lv_at hl 1 rfl) ?_
      refine rdV (As := []) (rest := []) (ci := 1) (q0 := 2) hE (kX1_hasNothing l G sh sc ln L ) (cwV 0 hts gX4_copy_X1_hasNothing rfl rfl rfl (by decide +kernel) ⟨Nat.le_of_ble_eq_true rfl, Nat.le_of_ble_eq_true rfl⟩) hP hK [2] rfl rfl rfl rfl hl.1 rfl (Nat.le_of_ble_eq_true rfl) dX4_copy_38 ⟨Nat.zero_le _, Nat.zero_le _⟩ ?_
      refine W.eq (g2 := F0 m 41 ls [.int (bI (ln = (-1)))]) rfl ?_
      refine bz_ne (tgt := 52) hx hb dX4_copy_41 (by decide) (fun c3 => ?_) (fun c3 => ?_)
      ·
        refine lv_aload_n hx hb dX4_copy_52 rfl (lv_at hl 2 rfl) ?_
        refine lv_iconst (v := nI 1) hx hb dX4_copy_53 (by decide) ?_
        refine wtV (As := [.int (nI 1)]) (rest := []) (ci := 4) (q0 := 0) hE (kX4_faulted l G x st tr ra sa R tc fl (nI 1) ) (cwV 1 hts gX4_copy_X4_faulted rfl rfl rfl (by decide +kernel) ⟨Nat.le_of_ble_eq_true rfl, Nat.le_of_ble_eq_true rfl⟩) hP hK hD hS [0] (by decide) rfl (Eq.trans (b := [x]) rfl rfl) (W1 := [(x, .inr (4, [.ref st, .ref tr, .ref ra, .int (nI R), .ref sa, .int tc, .int (nI 1)])), (sa, aS G 4 SA), (sh, .inr (1, [.ref sc, .int ln, .int (nI L)])), (sc, aI G 60 F)]) rfl rfl rfl rfl hl.1 rfl (Nat.le_of_ble_eq_true rfl) dX4_copy_54 ⟨Nat.zero_le _, Nat.zero_le _⟩ (fun H locs hP hD hS => ?_)
        refine W.eq (g2 := F0 m 57 ls [.int ((-10) - (nI 1))]) rfl ?_
        exact hret _ _ _ _ _ (by first | with_reducible rfl | (simp only [s_copy, f_copy, cpG, iF_t True.intro, iF_t c1, iF_t c2, iF_t c3, tn_nI (show jk < 2 ^ 31 by omega)]; done) | contradiction) (by first | with_reducible exact hP | (simp only [s_copy, f_copy, cpG, iF_t True.intro, iF_t c1, iF_t c2, iF_t c3, tn_nI (show jk < 2 ^ 31 by omega)]; with_reducible exact hP) | contradiction | (simp only [s_copy, f_copy, cpG, iF_t True.intro, iF_t c1, iF_t c2, iF_t c3, tn_nI (show jk < 2 ^ 31 by omega)]; exact hP) | exact hP) hS dX4_copy_57
      ·
        refine lv_aload hx hb dX4_copy_44 (lv_at hl 0 rfl) ?_
        refine rdV (As := []) (rest := []) (ci := 1) (q0 := 2) hE (kX1_hasNothing l G sh sc ln L ) (cwV 0 hts gX4_copy_X1_hasNothing rfl rfl rfl (by decide +kernel) ⟨Nat.le_of_ble_eq_true rfl, Nat.le_of_ble_eq_true rfl⟩) hP hK [2] rfl rfl rfl rfl hl.1 rfl (Nat.le_of_ble_eq_true rfl) dX4_copy_46 ⟨Nat.zero_le _, Nat.zero_le _⟩ ?_
        refine W.eq (g2 := F0 m 49 ls [.int (bI (ln = (-1)))]) rfl ?_
        refine bz_eq (tgt := 58) hx hb dX4_copy_49 (by decide) (fun c4 => ?_) (fun c4 => ?_)
        ·
          refine lv_aload hx hb dX4_copy_58 (lv_at hl 1 rfl) ?_
          refine g_getN (v := .int ln) hx hb hts ixX4_copy_X1 hown hK hP 2 rfl rfl 1 (by decide) nkX4_183 rfl dX4_copy_60 ?_
          refine lv_aload hx hb dX4_copy_63 (lv_at hl 0 rfl) ?_
          refine g_getN (v := .int ln) hx hb hts ixX4_copy_X1 hown hK hP 2 rfl rfl 1 (by decide) nkX4_183 rfl dX4_copy_65 ?_
          refine lv_icmp_eq (tgt := 77) hx hb dX4_copy_68 (by decide) (fun c5 => ?_) (fun c5 => ?_)
          ·
            refine lv_aload hx hb dX4_copy_77 (lv_at hl 1 rfl) ?_
            refine lv_iload_n hx hb dX4_copy_79 rfl (lv_at hl 4 rfl) ?_
            refine lv_iload hx hb dX4_copy_80 (lv_at hl 7 rfl) ?_
            refine rdV (As := [.int i, .int n]) (rest := []) (ci := 1) (q0 := 2) hE (kX1_hasCells l G sh sc ln L i n ) (cwV 2 hts gX4_copy_X1_hasCells rfl rfl rfl (by decide +kernel) ⟨Nat.le_of_ble_eq_true rfl, Nat.le_of_ble_eq_true rfl⟩) hP hK [2] rfl rfl rfl rfl hl.1 rfl (Nat.le_of_ble_eq_true rfl) dX4_copy_82 ⟨Nat.zero_le _, Nat.zero_le _⟩ ?_
            refine W.eq (g2 := F0 m 85 ls [.int (bI (hc L i n))]) rfl ?_
            refine bz_eq (tgt := 100) hx hb dX4_copy_85 (by decide) (fun c6 => ?_) (fun c6 => ?_)
            ·
              refine lv_aload_n hx hb dX4_copy_100 rfl (lv_at hl 2 rfl) ?_
              refine lv_iconst (v := nI 3) hx hb dX4_copy_101 (by decide) ?_
              refine wtV (As := [.int (nI 3)]) (rest := []) (ci := 4) (q0 := 0) hE (kX4_faulted l G x st tr ra sa R tc fl (nI 3) ) (cwV 1 hts gX4_copy_X4_faulted rfl rfl rfl (by decide +kernel) ⟨Nat.le_of_ble_eq_true rfl, Nat.le_of_ble_eq_true rfl⟩) hP hK hD hS [0] (by decide) rfl (Eq.trans (b := [x]) rfl rfl) (W1 := [(x, .inr (4, [.ref st, .ref tr, .ref ra, .int (nI R), .ref sa, .int tc, .int (nI 3)])), (sa, aS G 4 SA), (sh, .inr (1, [.ref sc, .int ln, .int (nI L)])), (sc, aI G 60 F)]) rfl rfl rfl rfl hl.1 rfl (Nat.le_of_ble_eq_true rfl) dX4_copy_102 ⟨Nat.zero_le _, Nat.zero_le _⟩ (fun H locs hP hD hS => ?_)
              refine W.eq (g2 := F0 m 105 ls [.int ((-10) - (nI 3))]) rfl ?_
              exact hret _ _ _ _ _ (by first | with_reducible rfl | (simp only [s_copy, f_copy, cpG, iF_t True.intro, iF_t c1, iF_t c2, iF_f c3, iF_f c4, iF_t c5, iF_f c6, iF_f (fun h : _ ∧ _ => c6 h.1), tn_nI (show jk < 2 ^ 31 by omega)]; done) | contradiction) (by first | with_reducible exact hP | (simp only [s_copy, f_copy, cpG, iF_t True.intro, iF_t c1, iF_t c2, iF_f c3, iF_f c4, iF_t c5, iF_f c6, iF_f (fun h : _ ∧ _ => c6 h.1), tn_nI (show jk < 2 ^ 31 by omega)]; with_reducible exact hP) | contradiction | (simp only [s_copy, f_copy, cpG, iF_t True.intro, iF_t c1, iF_t c2, iF_f c3, iF_f c4, iF_t c5, iF_f c6, iF_f (fun h : _ ∧ _ => c6 h.1), tn_nI (show jk < 2 ^ 31 by omega)]; exact hP) | exact hP) hS dX4_copy_105
            ·
              refine lv_aload hx hb dX4_copy_88 (lv_at hl 0 rfl) ?_
              refine lv_iload hx hb dX4_copy_90 (lv_at hl 6 rfl) ?_
              refine lv_iload hx hb dX4_copy_92 (lv_at hl 7 rfl) ?_
              refine rdV (As := [.int j, .int n]) (rest := []) (ci := 1) (q0 := 2) hE (kX1_hasCells l G sh sc ln L j n ) (cwV 2 hts gX4_copy_X1_hasCells rfl rfl rfl (by decide +kernel) ⟨Nat.le_of_ble_eq_true rfl, Nat.le_of_ble_eq_true rfl⟩) hP hK [2] rfl rfl rfl rfl hl.1 rfl (Nat.le_of_ble_eq_true rfl) dX4_copy_94 ⟨Nat.zero_le _, Nat.zero_le _⟩ ?_
              refine W.eq (g2 := F0 m 97 ls [.int (bI (hc L j n))]) rfl ?_
              refine bz_ne (tgt := 106) hx hb dX4_copy_97 (by decide) (fun c7 => ?_) (fun c7 => ?_)
              ·
                have h99 := And.intro c6 c7
                obtain ⟨ji, jn, rfl, rfl, hin9⟩ := hc_of c6 (by omega)
                obtain ⟨jj, jn2, rfl, en2, hjn9⟩ := hc_of c7 (by omega)
                have hn29 : jn = jn2 := (nI_eq (by omega) (by omega)).mp en2
                refine lv_aload_n hx hb dX4_copy_106 rfl (lv_at hl 2 rfl) ?_
                refine lv_iconst (v := nI 0) hx hb dX4_copy_107 (by decide) ?_
                refine g_put (v := (nI 0)) hx hb hts ixX4_copy_X4 tyX4 tyX4_ok nmX4 hown hK hP hD hS 0 rfl rfl 6 (by decide) lkX4_copy_40 rfl rfl (Nat.le_of_ble_eq_true rfl) dX4_copy_108 (fun H locs hP hD hS => ?_)
                have hP : va_P G.1 vwCl [(x, .inr (4, [.ref st, .ref tr, .ref ra, .int (nI R), .ref sa, .int tc, .int (nI 0)])), (sa, aS G 4 SA), (sh, .inr (1, [.ref sc, .int ln, .int (nI L)])), (sc, aI G 60 F)] H := hP
                have hD : va_D A [(x, .inr (4, [.ref st, .ref tr, .ref ra, .int (nI R), .ref sa, .int tc, .int (nI 0)])), (sa, aS G 4 SA), (sh, .inr (1, [.ref sc, .int ln, .int (nI L)])), (sc, aI G 60 F)] := hD
                refine lv_aload hx hb dX4_copy_111 (lv_at hl 1 rfl) ?_
                refine g_getN (v := .ref sc) hx hb hts ixX4_copy_X1 hown hK hP 2 rfl rfl 0 (by decide) nkX4_139 rfl dX4_copy_113 ?_
                refine lv_iload_n hx hb dX4_copy_116 rfl (lv_at hl 4 rfl) ?_
                refine lv_aload hx hb dX4_copy_117 (lv_at hl 0 rfl) ?_
                refine g_getN (v := .ref sc) hx hb hts ixX4_copy_X1 hown hK hP 2 rfl rfl 0 (by decide) nkX4_139 rfl dX4_copy_119 ?_
                refine lv_iload hx hb dX4_copy_122 (lv_at hl 6 rfl) ?_
                refine lv_iload hx hb dX4_copy_124 (lv_at hl 7 rfl) ?_
                refine n_copy hx hb hml hts hown (List.mem_of_getElem? (i := 3) rfl) (List.mem_of_getElem? (i := 4) rfl) (List.mem_of_getElem? (i := 5) rfl) (List.mem_of_getElem? (i := 6) rfl) hK hP hD hS 3 3 rfl rfl (sp := ji) (dp := jj) (n := jn) (by omega) (by omega) (by decide) (by decide) hl.1 (Nat.le_of_ble_eq_true rfl) (Nat.le_of_ble_eq_true rfl) dX4_copy_126 (fun H locs hP hD hS => ?_)
                have hP : va_P G.1 vwCl [(x, .inr (4, [.ref st, .ref tr, .ref ra, .int (nI R), .ref sa, .int tc, .int (nI 0)])), (sa, aS G 4 SA), (sh, .inr (1, [.ref sc, .int ln, .int (nI L)])), (sc, aI G 60 (va_cpy F F ji jj jn))] H := hP
                have hD : va_D A [(x, .inr (4, [.ref st, .ref tr, .ref ra, .int (nI R), .ref sa, .int tc, .int (nI 0)])), (sa, aS G 4 SA), (sh, .inr (1, [.ref sc, .int ln, .int (nI L)])), (sc, aI G 60 (va_cpy F F ji jj jn))] := hD
                refine lv_iload hx hb dX4_copy_129 (lv_at hl 7 rfl) ?_
                exact hret _ _ _ _ _ (by first | with_reducible rfl | (simp only [s_copy, f_copy, cpG, iF_t True.intro, iF_t c1, iF_t c2, iF_f c3, iF_f c4, iF_t c5, iF_t c6, iF_t c7, iF_t h99, tn_nI (show jk < 2 ^ 31 by omega), tn_nI (show ji < 2 ^ 31 by omega), tn_nI (show jn < 2 ^ 31 by omega), tn_nI (show jj < 2 ^ 31 by omega)]; done) | contradiction) (by first | with_reducible exact hP | (simp only [s_copy, f_copy, cpG, iF_t True.intro, iF_t c1, iF_t c2, iF_f c3, iF_f c4, iF_t c5, iF_t c6, iF_t c7, iF_t h99, tn_nI (show jk < 2 ^ 31 by omega), tn_nI (show ji < 2 ^ 31 by omega), tn_nI (show jn < 2 ^ 31 by omega), tn_nI (show jj < 2 ^ 31 by omega)]; with_reducible exact hP) | contradiction | (simp only [s_copy, f_copy, cpG, iF_t True.intro, iF_t c1, iF_t c2, iF_f c3, iF_f c4, iF_t c5, iF_t c6, iF_t c7, iF_t h99, tn_nI (show jk < 2 ^ 31 by omega), tn_nI (show ji < 2 ^ 31 by omega), tn_nI (show jn < 2 ^ 31 by omega), tn_nI (show jj < 2 ^ 31 by omega)]; exact hP) | exact hP) hS dX4_copy_131
              ·
                refine lv_aload_n hx hb dX4_copy_100 rfl (lv_at hl 2 rfl) ?_
                refine lv_iconst (v := nI 3) hx hb dX4_copy_101 (by decide) ?_
                refine wtV (As := [.int (nI 3)]) (rest := []) (ci := 4) (q0 := 0) hE (kX4_faulted l G x st tr ra sa R tc fl (nI 3) ) (cwV 1 hts gX4_copy_X4_faulted rfl rfl rfl (by decide +kernel) ⟨Nat.le_of_ble_eq_true rfl, Nat.le_of_ble_eq_true rfl⟩) hP hK hD hS [0] (by decide) rfl (Eq.trans (b := [x]) rfl rfl) (W1 := [(x, .inr (4, [.ref st, .ref tr, .ref ra, .int (nI R), .ref sa, .int tc, .int (nI 3)])), (sa, aS G 4 SA), (sh, .inr (1, [.ref sc, .int ln, .int (nI L)])), (sc, aI G 60 F)]) rfl rfl rfl rfl hl.1 rfl (Nat.le_of_ble_eq_true rfl) dX4_copy_102 ⟨Nat.zero_le _, Nat.zero_le _⟩ (fun H locs hP hD hS => ?_)
                refine W.eq (g2 := F0 m 105 ls [.int ((-10) - (nI 3))]) rfl ?_
                exact hret _ _ _ _ _ (by first | with_reducible rfl | (simp only [s_copy, f_copy, cpG, iF_t True.intro, iF_t c1, iF_t c2, iF_f c3, iF_f c4, iF_t c5, iF_t c6, iF_f c7, iF_f (fun h : _ ∧ _ => c7 h.2), tn_nI (show jk < 2 ^ 31 by omega)]; done) | contradiction) (by first | with_reducible exact hP | (simp only [s_copy, f_copy, cpG, iF_t True.intro, iF_t c1, iF_t c2, iF_f c3, iF_f c4, iF_t c5, iF_t c6, iF_f c7, iF_f (fun h : _ ∧ _ => c7 h.2), tn_nI (show jk < 2 ^ 31 by omega)]; with_reducible exact hP) | contradiction | (simp only [s_copy, f_copy, cpG, iF_t True.intro, iF_t c1, iF_t c2, iF_f c3, iF_f c4, iF_t c5, iF_t c6, iF_f c7, iF_f (fun h : _ ∧ _ => c7 h.2), tn_nI (show jk < 2 ^ 31 by omega)]; exact hP) | exact hP) hS dX4_copy_105
          ·
            refine lv_aload_n hx hb dX4_copy_71 rfl (lv_at hl 2 rfl) ?_
            refine lv_iconst (v := nI 2) hx hb dX4_copy_72 (by decide) ?_
            refine wtV (As := [.int (nI 2)]) (rest := []) (ci := 4) (q0 := 0) hE (kX4_faulted l G x st tr ra sa R tc fl (nI 2) ) (cwV 1 hts gX4_copy_X4_faulted rfl rfl rfl (by decide +kernel) ⟨Nat.le_of_ble_eq_true rfl, Nat.le_of_ble_eq_true rfl⟩) hP hK hD hS [0] (by decide) rfl (Eq.trans (b := [x]) rfl rfl) (W1 := [(x, .inr (4, [.ref st, .ref tr, .ref ra, .int (nI R), .ref sa, .int tc, .int (nI 2)])), (sa, aS G 4 SA), (sh, .inr (1, [.ref sc, .int ln, .int (nI L)])), (sc, aI G 60 F)]) rfl rfl rfl rfl hl.1 rfl (Nat.le_of_ble_eq_true rfl) dX4_copy_73 ⟨Nat.zero_le _, Nat.zero_le _⟩ (fun H locs hP hD hS => ?_)
            refine W.eq (g2 := F0 m 76 ls [.int ((-10) - (nI 2))]) rfl ?_
            exact hret _ _ _ _ _ (by first | with_reducible rfl | (simp only [s_copy, f_copy, cpG, iF_t True.intro, iF_t c1, iF_t c2, iF_f c3, iF_f c4, iF_f c5, tn_nI (show jk < 2 ^ 31 by omega)]; done) | contradiction) (by first | with_reducible exact hP | (simp only [s_copy, f_copy, cpG, iF_t True.intro, iF_t c1, iF_t c2, iF_f c3, iF_f c4, iF_f c5, tn_nI (show jk < 2 ^ 31 by omega)]; with_reducible exact hP) | contradiction | (simp only [s_copy, f_copy, cpG, iF_t True.intro, iF_t c1, iF_t c2, iF_f c3, iF_f c4, iF_f c5, tn_nI (show jk < 2 ^ 31 by omega)]; exact hP) | exact hP) hS dX4_copy_76
        ·
          exact absurd c4 c3
    ·
      exact absurd c1 c2
