theorem ixX5_town_X5 : ∀ w ∈ wsX50, w ∈ wsX5_town := fun _ h => List.mem_cons_of_mem _ (List.mem_append_right _ h)
theorem lkX5_town_55 : Cond.fieldLink RX5 55 (TX5 0).1 (TX5 0).2.1 (TX5 0).2.2.1 ∈ wsX5_town := List.mem_of_getElem? (i := 1) rfl
set_option maxHeartbeats 4000000 in
set_option maxRecDepth 100000 in
theorem kX5_townr1 (l : Launch) (G : Gl) (o : Nat) (ff : Int32) (ftr : Int32) (aso : Nat) (asl : Nat) (ace : Nat) (M : Nat) (B : Nat) (ape : Nat) (aki : Nat) (abo : Nat) (at_ : Int32) (rM : Int32) (rB : Int32) (arp : Nat) (ark : Nat) (arb : Nat) (fb : Int32) (fto : Int32) (R : Nat) (awh : Nat) (awn : Nat) (awm : Nat) (awk : Nat) (amo : Nat) (amu : Nat) (k : Int32) (lane : Int32) (i : Int32) (n : Int32) (hk : ¬ (vp_in k 4)) : Wt l G yX5_town wsX5_town ({ frames := 2, cells := 0, slots := 0, locals := 42 } : Room) [.ref o, .int k, .int lane, .int i, .int n] [(o, .inr (5, [.int ff, .int ftr, .ref aso, .ref asl, .ref ace, .int (nI M), .int (nI B), .ref ape, .ref aki, .ref abo, .int at_, .int rM, .int rB, .ref arp, .ref ark, .ref arb, .int fb, .int fto, .int (nI R), .ref awh, .ref awn, .ref awm, .ref awk, .ref amo, .ref amu]))] [(o, .inr (5, [.int (nI 0), .int ftr, .ref aso, .ref asl, .ref ace, .int (nI M), .int (nI B), .ref ape, .ref aki, .ref abo, .int at_, .int rM, .int rB, .ref arp, .ref ark, .ref arb, .int fb, .int fto, .int (nI R), .ref awh, .ref awn, .ref awm, .ref awk, .ref amo, .ref amu]))] (some (.int (-1))) := by
  refine Wt.ofI (cc := cX5_town) (maxL := 8) (by decide) rfl (Nat.le_of_ble_eq_true rfl) ?_
  intro p e s m below meth c Q A ls hE hP hK hD hS hl hret
  obtain ⟨hx, hb, hml, hown, hts⟩ := id hE
  have hl : lv_has ls 8 [(0, .ref o), (1, .int k), (2, .int lane), (3, .int i), (4, .int n)] := hl
  refine lv_aload_n hx hb dX5_town_0 rfl (lv_at hl 0 rfl) ?_
  refine lv_iconst (v := nI 0) hx hb dX5_town_1 (by decide) ?_
  refine g_put (v := (nI 0)) hx hb hts ixX5_town_X5 tyX5 tyX5_ok nmX5 hown hK hP hD hS 0 rfl rfl 0 (by decide) lkX5_town_55 rfl rfl (Nat.le_of_ble_eq_true rfl) dX5_town_2 (fun H locs hP hD hS => ?_)
  have hP : va_P G.1 vwCl [(o, .inr (5, [.int (nI 0), .int ftr, .ref aso, .ref asl, .ref ace, .int (nI M), .int (nI B), .ref ape, .ref aki, .ref abo, .int at_, .int rM, .int rB, .ref arp, .ref ark, .ref arb, .int fb, .int fto, .int (nI R), .ref awh, .ref awn, .ref awm, .ref awk, .ref amo, .ref amu]))] H := hP
  have hD : va_D A [(o, .inr (5, [.int (nI 0), .int ftr, .ref aso, .ref asl, .ref ace, .int (nI M), .int (nI B), .ref ape, .ref aki, .ref abo, .int at_, .int rM, .int rB, .ref arp, .ref ark, .ref arb, .int fb, .int fto, .int (nI R), .ref awh, .ref awn, .ref awm, .ref awk, .ref amo, .ref amu]))] := hD
  refine lv_iload_n hx hb dX5_town_5 rfl (lv_at hl 1 rfl) ?_
  refine rdS (As := [.int k]) (rest := []) hE (kX5_isSheet l G k ) (va_cwS 1 hts gX5_town_X5_isSheet rfl rfl rfl (by decide +kernel) ⟨Nat.le_of_ble_eq_true rfl, Nat.le_of_ble_eq_true rfl⟩) hP hK [] rfl rfl hl.1 rfl (Nat.le_of_ble_eq_true rfl) dX5_town_6 ⟨Nat.zero_le _, Nat.zero_le _⟩ ?_
  refine W.eq (g2 := F0 m 9 ls [.int (bI (vp_in k 4))]) rfl ?_
  refine bz_ne (tgt := 14) hx hb dX5_town_9 (by decide) (fun c1 => ?_) (fun c1 => ?_)
  ·
    exact absurd c1 hk
  ·
    refine lv_iconst (v := (-1)) hx hb dX5_town_12 (by decide) ?_
    exact hret _ _ _ _ _ (by first | with_reducible rfl | (simp only [iF_f c1]; done) | contradiction) (hP) hS dX5_town_13

set_option maxHeartbeats 4000000 in
set_option maxRecDepth 100000 in
theorem kX5_townr2 (l : Launch) (G : Gl) (o : Nat) (ff : Int32) (ftr : Int32) (aso : Nat) (asl : Nat) (ace : Nat) (M : Nat) (B : Nat) (ape : Nat) (aki : Nat) (abo : Nat) (at_ : Int32) (rM : Int32) (rB : Int32) (arp : Nat) (ark : Nat) (arb : Nat) (fb : Int32) (fto : Int32) (R : Nat) (awh : Nat) (awn : Nat) (awm : Nat) (awk : Nat) (amo : Nat) (amu : Nat) (k : Nat) (lane : Int32) (i : Int32) (n : Int32) (hk4 : k < 4) (hln : ¬ (vp_in lane (2 + 1))) : Wt l G yX5_town wsX5_town ({ frames := 2, cells := 0, slots := 0, locals := 42 } : Room) [.ref o, .int (nI k), .int lane, .int i, .int n] [(o, .inr (5, [.int ff, .int ftr, .ref aso, .ref asl, .ref ace, .int (nI M), .int (nI B), .ref ape, .ref aki, .ref abo, .int at_, .int rM, .int rB, .ref arp, .ref ark, .ref arb, .int fb, .int fto, .int (nI R), .ref awh, .ref awn, .ref awm, .ref awk, .ref amo, .ref amu]))] [(o, .inr (5, [.int (nI 0), .int ftr, .ref aso, .ref asl, .ref ace, .int (nI M), .int (nI B), .ref ape, .ref aki, .ref abo, .int at_, .int rM, .int rB, .ref arp, .ref ark, .ref arb, .int fb, .int fto, .int (nI R), .ref awh, .ref awn, .ref awm, .ref awk, .ref amo, .ref amu]))] (some (.int (-2))) := by
  refine Wt.ofI (cc := cX5_town) (maxL := 8) (by decide) rfl (Nat.le_of_ble_eq_true rfl) ?_
  intro p e s m below meth c Q A ls hE hP hK hD hS hl hret
  obtain ⟨hx, hb, hml, hown, hts⟩ := id hE
  have hl : lv_has ls 8 [(0, .ref o), (1, .int (nI k)), (2, .int lane), (3, .int i), (4, .int n)] := hl
  refine lv_aload_n hx hb dX5_town_0 rfl (lv_at hl 0 rfl) ?_
  refine lv_iconst (v := nI 0) hx hb dX5_town_1 (by decide) ?_
  refine g_put (v := (nI 0)) hx hb hts ixX5_town_X5 tyX5 tyX5_ok nmX5 hown hK hP hD hS 0 rfl rfl 0 (by decide) lkX5_town_55 rfl rfl (Nat.le_of_ble_eq_true rfl) dX5_town_2 (fun H locs hP hD hS => ?_)
  have hP : va_P G.1 vwCl [(o, .inr (5, [.int (nI 0), .int ftr, .ref aso, .ref asl, .ref ace, .int (nI M), .int (nI B), .ref ape, .ref aki, .ref abo, .int at_, .int rM, .int rB, .ref arp, .ref ark, .ref arb, .int fb, .int fto, .int (nI R), .ref awh, .ref awn, .ref awm, .ref awk, .ref amo, .ref amu]))] H := hP
  have hD : va_D A [(o, .inr (5, [.int (nI 0), .int ftr, .ref aso, .ref asl, .ref ace, .int (nI M), .int (nI B), .ref ape, .ref aki, .ref abo, .int at_, .int rM, .int rB, .ref arp, .ref ark, .ref arb, .int fb, .int fto, .int (nI R), .ref awh, .ref awn, .ref awm, .ref awk, .ref amo, .ref amu]))] := hD
  refine lv_iload_n hx hb dX5_town_5 rfl (lv_at hl 1 rfl) ?_
  refine rdS (As := [.int (nI k)]) (rest := []) hE (kX5_isSheet l G (nI k) ) (va_cwS 1 hts gX5_town_X5_isSheet rfl rfl rfl (by decide +kernel) ⟨Nat.le_of_ble_eq_true rfl, Nat.le_of_ble_eq_true rfl⟩) hP hK [] rfl rfl hl.1 rfl (Nat.le_of_ble_eq_true rfl) dX5_town_6 ⟨Nat.zero_le _, Nat.zero_le _⟩ ?_
  refine W.eq (g2 := F0 m 9 ls [.int (bI (vp_in (nI k) 4))]) rfl ?_
  refine bz_ne (tgt := 14) hx hb dX5_town_9 (by decide) (fun c1 => ?_) (fun c1 => ?_)
  ·
    refine lv_iload_n hx hb dX5_town_14 rfl (lv_at hl 2 rfl) ?_
    refine rdS (As := [.int lane]) (rest := []) hE (kX5_isSort l G lane ) (va_cwS 1 hts gX5_town_X5_isSort rfl rfl rfl (by decide +kernel) ⟨Nat.le_of_ble_eq_true rfl, Nat.le_of_ble_eq_true rfl⟩) hP hK [] rfl rfl hl.1 rfl (Nat.le_of_ble_eq_true rfl) dX5_town_15 ⟨Nat.zero_le _, Nat.zero_le _⟩ ?_
    refine W.eq (g2 := F0 m 18 ls [.int (bI (vp_in lane (2 + 1)))]) rfl ?_
    refine bz_ne (tgt := 24) hx hb dX5_town_18 (by decide) (fun c2 => ?_) (fun c2 => ?_)
    ·
      exact absurd c2 hln
    ·
      refine lv_bipush (v := (-2)) hx hb dX5_town_21 (by decide) ?_
      exact hret _ _ _ _ _ (by first | with_reducible rfl | (simp only [iF_t c1, iF_f c2]; done) | contradiction) (hP) hS dX5_town_23
  ·
    exact absurd (vp_in_nI hk4 (by omega)) c1

set_option maxHeartbeats 4000000 in
set_option maxRecDepth 100000 in
theorem kX5_townf (l : Launch) (G : Gl) (o : Nat) (ff : Int32) (ftr : Int32) (aso : Nat) (asl : Nat) (ace : Nat) (M : Nat) (B : Nat) (ape : Nat) (aki : Nat) (abo : Nat) (at_ : Int32) (rM : Int32) (rB : Int32) (arp : Nat) (ark : Nat) (arb : Nat) (fb : Int32) (fto : Int32) (R : Nat) (awh : Nat) (awn : Nat) (awm : Nat) (awk : Nat) (amo : Nat) (amu : Nat) (SO : Nat → Int32) (SL : Nat → Int32) (k : Nat) (L : Nat) (lane : Int32) (i : Int32) (n : Int32) (hk4 : k < 4) (hl9 : SL k = nI L) (hln : vp_in lane (2 + 1)) (hft : ¬ ((ft (-9) (SO k) L lane i n) = 0)) : Wt l G yX5_town wsX5_town ({ frames := 2, cells := 0, slots := 0, locals := 42 } : Room) [.ref o, .int (nI k), .int lane, .int i, .int n] [(o, .inr (5, [.int ff, .int ftr, .ref aso, .ref asl, .ref ace, .int (nI M), .int (nI B), .ref ape, .ref aki, .ref abo, .int at_, .int rM, .int rB, .ref arp, .ref ark, .ref arb, .int fb, .int fto, .int (nI R), .ref awh, .ref awn, .ref awm, .ref awk, .ref amo, .ref amu])), (aso, aI G 4 SO), (asl, aI G 4 SL)] [(o, .inr (5, [.int (ft (-9) (SO k) L lane i n), .int ftr, .ref aso, .ref asl, .ref ace, .int (nI M), .int (nI B), .ref ape, .ref aki, .ref abo, .int at_, .int rM, .int rB, .ref arp, .ref ark, .ref arb, .int fb, .int fto, .int (nI R), .ref awh, .ref awn, .ref awm, .ref awk, .ref amo, .ref amu])), (aso, aI G 4 SO), (asl, aI G 4 SL)] (some (.int ((-10) - (ft (-9) (SO k) L lane i n)))) := by
  refine Wt.ofI (cc := cX5_town) (maxL := 8) (by decide) rfl (Nat.le_of_ble_eq_true rfl) ?_
  intro p e s m below meth c Q A ls hE hP hK hD hS hl hret
  obtain ⟨hx, hb, hml, hown, hts⟩ := id hE
  have hl : lv_has ls 8 [(0, .ref o), (1, .int (nI k)), (2, .int lane), (3, .int i), (4, .int n)] := hl
  refine lv_aload_n hx hb dX5_town_0 rfl (lv_at hl 0 rfl) ?_
  refine lv_iconst (v := nI 0) hx hb dX5_town_1 (by decide) ?_
  refine g_put (v := (nI 0)) hx hb hts ixX5_town_X5 tyX5 tyX5_ok nmX5 hown hK hP hD hS 0 rfl rfl 0 (by decide) lkX5_town_55 rfl rfl (Nat.le_of_ble_eq_true rfl) dX5_town_2 (fun H locs hP hD hS => ?_)
  have hP : va_P G.1 vwCl [(o, .inr (5, [.int (nI 0), .int ftr, .ref aso, .ref asl, .ref ace, .int (nI M), .int (nI B), .ref ape, .ref aki, .ref abo, .int at_, .int rM, .int rB, .ref arp, .ref ark, .ref arb, .int fb, .int fto, .int (nI R), .ref awh, .ref awn, .ref awm, .ref awk, .ref amo, .ref amu])), (aso, aI G 4 SO), (asl, aI G 4 SL)] H := hP
  have hD : va_D A [(o, .inr (5, [.int (nI 0), .int ftr, .ref aso, .ref asl, .ref ace, .int (nI M), .int (nI B), .ref ape, .ref aki, .ref abo, .int at_, .int rM, .int rB, .ref arp, .ref ark, .ref arb, .int fb, .int fto, .int (nI R), .ref awh, .ref awn, .ref awm, .ref awk, .ref amo, .ref amu])), (aso, aI G 4 SO), (asl, aI G 4 SL)] := hD
  refine lv_iload_n hx hb dX5_town_5 rfl (lv_at hl 1 rfl) ?_
  refine rdS (As := [.int (nI k)]) (rest := []) hE (kX5_isSheet l G (nI k) ) (va_cwS 1 hts gX5_town_X5_isSheet rfl rfl rfl (by decide +kernel) ⟨Nat.le_of_ble_eq_true rfl, Nat.le_of_ble_eq_true rfl⟩) hP hK [] rfl rfl hl.1 rfl (Nat.le_of_ble_eq_true rfl) dX5_town_6 ⟨Nat.zero_le _, Nat.zero_le _⟩ ?_
  refine W.eq (g2 := F0 m 9 ls [.int (bI (vp_in (nI k) 4))]) rfl ?_
  refine bz_ne (tgt := 14) hx hb dX5_town_9 (by decide) (fun c1 => ?_) (fun c1 => ?_)
  ·
    refine lv_iload_n hx hb dX5_town_14 rfl (lv_at hl 2 rfl) ?_
    refine rdS (As := [.int lane]) (rest := []) hE (kX5_isSort l G lane ) (va_cwS 1 hts gX5_town_X5_isSort rfl rfl rfl (by decide +kernel) ⟨Nat.le_of_ble_eq_true rfl, Nat.le_of_ble_eq_true rfl⟩) hP hK [] rfl rfl hl.1 rfl (Nat.le_of_ble_eq_true rfl) dX5_town_15 ⟨Nat.zero_le _, Nat.zero_le _⟩ ?_
    refine W.eq (g2 := F0 m 18 ls [.int (bI (vp_in lane (2 + 1)))]) rfl ?_
    refine bz_ne (tgt := 24) hx hb dX5_town_18 (by decide) (fun c2 => ?_) (fun c2 => ?_)
    ·
      refine lv_aload_n hx hb dX5_town_24 rfl (lv_at hl 0 rfl) ?_
      refine lv_iload_n hx hb dX5_town_25 rfl (lv_at hl 1 rfl) ?_
      refine lv_iload_n hx hb dX5_town_26 rfl (lv_at hl 2 rfl) ?_
      refine lv_iload_n hx hb dX5_town_27 rfl (lv_at hl 3 rfl) ?_
      refine lv_iload hx hb dX5_town_28 (lv_at hl 4 rfl) ?_
      refine rdV (As := [.int (nI k), .int lane, .int i, .int n]) (rest := []) (ci := 5) (q0 := 0) hE (kX5_against l G o (nI 0) ftr aso asl ace M B ape aki abo at_ rM rB arp ark arb fb fto R awh awn awm awk amo amu SO SL k L lane i n hk4 hl9) (cwV 4 hts gX5_town_X5_against rfl rfl rfl (by decide +kernel) ⟨Nat.le_of_ble_eq_true rfl, Nat.le_of_ble_eq_true rfl⟩) hP hK [0, 1, 2] rfl rfl rfl rfl hl.1 rfl (Nat.le_of_ble_eq_true rfl) dX5_town_30 ⟨Nat.zero_le _, Nat.zero_le _⟩ ?_
      refine W.eq (g2 := F0 m 33 ls [.int (ft (-9) (SO k) L lane i n)]) rfl ?_
      refine lv_istore (lv' := [(5, .int (ft (-9) (SO k) L lane i n)), (0, .ref o), (1, .int (nI k)), (2, .int lane), (3, .int i), (4, .int n)]) hx hb dX5_town_33 hl (by decide) rfl (fun ls hl => ?_)
      refine lv_iload hx hb dX5_town_35 (lv_at hl 0 rfl) ?_
      refine lv_if_eq (tgt := 47) hx hb dX5_town_37 (by decide) (fun c3 => ?_) (fun c3 => ?_)
      ·
        exact absurd c3 hft
      ·
        refine lv_aload_n hx hb dX5_town_40 rfl (lv_at hl 1 rfl) ?_
        refine lv_iload hx hb dX5_town_41 (lv_at hl 0 rfl) ?_
        refine wtV (As := [.int (ft (-9) (SO k) L lane i n)]) (rest := []) (ci := 5) (q0 := 0) hE (kX5_fails l G o (nI 0) ftr aso asl ace M B ape aki abo at_ rM rB arp ark arb fb fto R awh awn awm awk amo amu (ft (-9) (SO k) L lane i n) ) (cwV 1 hts gX5_town_X5_fails rfl rfl rfl (by decide +kernel) ⟨Nat.le_of_ble_eq_true rfl, Nat.le_of_ble_eq_true rfl⟩) hP hK hD hS [0] (by decide) rfl (Eq.trans (b := [o]) rfl rfl) (W1 := [(o, .inr (5, [.int (ft (-9) (SO k) L lane i n), .int ftr, .ref aso, .ref asl, .ref ace, .int (nI M), .int (nI B), .ref ape, .ref aki, .ref abo, .int at_, .int rM, .int rB, .ref arp, .ref ark, .ref arb, .int fb, .int fto, .int (nI R), .ref awh, .ref awn, .ref awm, .ref awk, .ref amo, .ref amu])), (aso, aI G 4 SO), (asl, aI G 4 SL)]) rfl rfl rfl rfl hl.1 rfl (Nat.le_of_ble_eq_true rfl) dX5_town_43 ⟨Nat.zero_le _, Nat.zero_le _⟩ (fun H locs hP hD hS => ?_)
        refine W.eq (g2 := F0 m 46 ls [.int ((-10) - (ft (-9) (SO k) L lane i n))]) rfl ?_
        exact hret _ _ _ _ _ (by first | with_reducible rfl | (simp only [iF_t c1, iF_t c2, iF_f c3]; done) | contradiction) (hP) hS dX5_town_46
    ·
      exact absurd hln c2
  ·
    exact absurd (vp_in_nI hk4 (by omega)) c1
