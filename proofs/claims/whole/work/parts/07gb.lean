theorem lkX5_town_71 : Cond.fieldLink RX5 71 (TX5 10).1 (TX5 10).2.1 (TX5 10).2.2.1 ∈ wsX5_town := List.mem_of_getElem? (i := 2) rfl
set_option maxHeartbeats 4000000 in
set_option maxRecDepth 100000 in
theorem kX5_townb (l : Launch) (G : Gl) (o : Nat) (ff : Int32) (ftr : Int32) (aso : Nat) (asl : Nat) (ace : Nat) (M : Nat) (B : Nat) (ape : Nat) (aki : Nat) (abo : Nat) (at_ : Int32) (rM : Int32) (rB : Int32) (arp : Nat) (ark : Nat) (arb : Nat) (fb : Int32) (fto : Int32) (R : Nat) (awh : Nat) (awn : Nat) (awm : Nat) (awk : Nat) (amo : Nat) (amu : Nat) (SO : Nat → Int32) (SL : Nat → Int32) (CE : Nat → Int32) (RP : Nat → Int32) (RK : Nat → Int32) (RB : Nat → Int32) (k : Nat) (L : Nat) (lane : Int32) (i : Nat) (n : Nat) (M9 : Nat) (hk4 : k < 4) (hl9 : SL k = nI L) (hln : vp_in lane (2 + 1)) (hft : (ft (-9) (SO k) L lane (nI i) (nI n)) = 0) (hin9 : i + n ≤ 60) (hMt : M9 = mT (fun t => CE (((60 * k) + i) + t)) n) (hno : ¬ (okT (fun t => CE (((60 * k) + i) + t)) M9 n)) : WtE l G yX5_town wsX5_town ({ frames := 4, cells := 0, slots := 0, locals := 90 } : Room) [.ref o, .int (nI k), .int lane, .int (nI i), .int (nI n)] [(o, .inr (5, [.int ff, .int ftr, .ref aso, .ref asl, .ref ace, .int (nI M), .int (nI B), .ref ape, .ref aki, .ref abo, .int at_, .int rM, .int rB, .ref arp, .ref ark, .ref arb, .int fb, .int fto, .int (nI R), .ref awh, .ref awn, .ref awm, .ref awk, .ref amo, .ref amu])), (aso, aI G 4 SO), (asl, aI G 4 SL), (ace, aI G 240 CE), (arp, aI G 25 RP), (ark, aI G 4 RK), (arb, aI G 4 RB)] (fun rv9 w9 => ∃ (at9 : Int32) (rM9 : Int32) (rB9 : Int32) (RP9 : Nat → Int32) (RK9 : Nat → Int32) (RB9 : Nat → Int32), rv9 = some (.int ((-100) - nI (ffP (fun t => CE (((60 * k) + i) + t)) M9 n))) ∧ w9 = [(o, .inr (5, [.int (nI 0), .int ftr, .ref aso, .ref asl, .ref ace, .int (nI M), .int (nI B), .ref ape, .ref aki, .ref abo, .int at9, .int rM9, .int rB9, .ref arp, .ref ark, .ref arb, .int fb, .int fto, .int (nI R), .ref awh, .ref awn, .ref awm, .ref awk, .ref amo, .ref amu])), (aso, aI G 4 SO), (asl, aI G 4 SL), (ace, aI G 240 CE), (arp, aI G 25 RP9), (ark, aI G 4 RK9), (arb, aI G 4 RB9)]) := by
  refine WtE.ofI (cc := cX5_town) (maxL := 8) (by decide) rfl (Nat.le_of_ble_eq_true rfl) ?_
  intro p e s m below meth c Q A ls hE hP hK hD hS hl hret
  obtain ⟨hx, hb, hml, hown, hts⟩ := id hE
  have hl : lv_has ls 8 [(0, .ref o), (1, .int (nI k)), (2, .int lane), (3, .int (nI i)), (4, .int (nI n))] := hl
  refine lv_aload_n hx hb dX5_town_0 rfl (lv_at hl 0 rfl) ?_
  refine lv_iconst (v := nI 0) hx hb dX5_town_1 (by decide) ?_
  refine g_put (v := (nI 0)) hx hb hts ixX5_town_X5 tyX5 tyX5_ok nmX5 hown hK hP hD hS 0 rfl rfl 0 (by decide) lkX5_town_55 rfl rfl (Nat.le_of_ble_eq_true rfl) dX5_town_2 (fun H locs hP hD hS => ?_)
  have hP : va_P G.1 vwCl [(o, .inr (5, [.int (nI 0), .int ftr, .ref aso, .ref asl, .ref ace, .int (nI M), .int (nI B), .ref ape, .ref aki, .ref abo, .int at_, .int rM, .int rB, .ref arp, .ref ark, .ref arb, .int fb, .int fto, .int (nI R), .ref awh, .ref awn, .ref awm, .ref awk, .ref amo, .ref amu])), (aso, aI G 4 SO), (asl, aI G 4 SL), (ace, aI G 240 CE), (arp, aI G 25 RP), (ark, aI G 4 RK), (arb, aI G 4 RB)] H := hP
  have hD : va_D A [(o, .inr (5, [.int (nI 0), .int ftr, .ref aso, .ref asl, .ref ace, .int (nI M), .int (nI B), .ref ape, .ref aki, .ref abo, .int at_, .int rM, .int rB, .ref arp, .ref ark, .ref arb, .int fb, .int fto, .int (nI R), .ref awh, .ref awn, .ref awm, .ref awk, .ref amo, .ref amu])), (aso, aI G 4 SO), (asl, aI G 4 SL), (ace, aI G 240 CE), (arp, aI G 25 RP), (ark, aI G 4 RK), (arb, aI G 4 RB)] := hD
  refine lv_iload_n hx hb dX5_town_5 rfl (lv_at hl 1 rfl) ?_
  refine rdS (As := [.int (nI k)]) (rest := []) hE (kX5_isSheet l G (nI k) ) (va_cwS 1 hts gX5_town_X5_isSheet rfl rfl rfl (by decide +kernel) ⟨Nat.le_of_ble_eq_true rfl, Nat.le_of_ble_eq_true rfl⟩) hP hK [] rfl rfl hl.1 rfl (Nat.le_of_ble_eq_true rfl) dX5_town_6 ⟨Nat.zero_le _, Nat.zero_le _⟩ ?_
  refine W.eq (g2 := F0 m 9 ls [.int (bI (vp_in (nI k) 4))]) rfl ?_
  refine bz_ne (tgt := 14) hx hb dX5_town_9 (by decide) (fun c1 => ?_) (fun c1 => ?_)
  ·
    refine lv_iload_n hx hb dX5_town_14 rfl (lv_at hl 2 rfl) ?_
    refine rdS (As := [.int lane]) (rest := []) hE (kX5_isSort l G lane ) (va_cwS 1 hts gX5_town_X5_isSort rfl rfl rfl (by decide +kernel) ⟨Nat.le_of_ble_eq_true rfl, Nat.le_of_ble_eq_true rfl⟩) hP hK [] rfl rfl hl.1 rfl (Nat.le_of_ble_eq_true rfl) dX5_town_15 ⟨Nat.zero_le _, Nat.zero_le _⟩ ?_
    refine W.eq (g2 := F0 m 18 ls [.int (bI (vp_in lane (2 + 1)))]) rfl ?_
    refine bz_ne (tgt := 24) hx hb dX5_town_18 (by decide) (fun c2 => ?_) (fun c2 => ?_)
    ·
      refine lv_aload_n hx hb dX5_town_24 rfl (lv_at hl 0 rfl) ?_
      refine lv_iload_n hx hb dX5_town_25 rfl (lv_at hl 1 rfl) ?_
      refine lv_iload_n hx hb dX5_town_26 rfl (lv_at hl 2 rfl) ?_
      refine lv_iload_n hx hb dX5_town_27 rfl (lv_at hl 3 rfl) ?_
      refine lv_iload hx hb dX5_town_28 (lv_at hl 4 rfl) ?_
      refine rdV (As := [.int (nI k), .int lane, .int (nI i), .int (nI n)]) (rest := []) (ci := 5) (q0 := 0) hE (kX5_against l G o (nI 0) ftr aso asl ace M B ape aki abo at_ rM rB arp ark arb fb fto R awh awn awm awk amo amu SO SL k L lane (nI i) (nI n) hk4 hl9) (cwV 4 hts gX5_town_X5_against rfl rfl rfl (by decide +kernel) ⟨Nat.le_of_ble_eq_true rfl, Nat.le_of_ble_eq_true rfl⟩) hP hK [0, 1, 2] rfl rfl rfl rfl hl.1 rfl (Nat.le_of_ble_eq_true rfl) dX5_town_30 ⟨Nat.zero_le _, Nat.zero_le _⟩ ?_
      refine W.eq (g2 := F0 m 33 ls [.int (ft (-9) (SO k) L lane (nI i) (nI n))]) rfl ?_
      refine lv_istore (lv' := [(5, .int (ft (-9) (SO k) L lane (nI i) (nI n))), (0, .ref o), (1, .int (nI k)), (2, .int lane), (3, .int (nI i)), (4, .int (nI n))]) hx hb dX5_town_33 hl (by decide) rfl (fun ls hl => ?_)
      refine lv_iload hx hb dX5_town_35 (lv_at hl 0 rfl) ?_
      refine lv_if_eq (tgt := 47) hx hb dX5_town_37 (by decide) (fun c3 => ?_) (fun c3 => ?_)
      ·
        refine lv_bipush (v := nI 60) hx hb dX5_town_47 (by decide) ?_
        refine lv_iload_n hx hb dX5_town_49 rfl (lv_at hl 2 rfl) ?_
        refine lv_imul hx hb dX5_town_50 ?_
        refine lv_tope (show (nI 60) * (nI k) = nI (60 * k) from pk_mul _ _) ?_
        refine lv_iload_n hx hb dX5_town_51 rfl (lv_at hl 4 rfl) ?_
        refine lv_iadd hx hb dX5_town_52 ?_
        refine lv_tope (show (nI (60 * k)) + (nI i) = nI ((60 * k) + i) from nI_add _ _) ?_
        refine lv_istore (lv' := [(6, .int (nI ((60 * k) + i))), (5, .int (ft (-9) (SO k) L lane (nI i) (nI n))), (0, .ref o), (1, .int (nI k)), (2, .int lane), (3, .int (nI i)), (4, .int (nI n))]) hx hb dX5_town_53 hl (by decide) rfl (fun ls hl => ?_)
        refine lv_aload_n hx hb dX5_town_55 rfl (lv_at hl 2 rfl) ?_
        refine lv_iload hx hb dX5_town_56 (lv_at hl 0 rfl) ?_
        refine g_put (v := (nI ((60 * k) + i))) hx hb hts ixX5_town_X5 tyX5 tyX5_ok nmX5 hown hK hP hD hS 0 rfl rfl 10 (by decide) lkX5_town_71 rfl rfl (Nat.le_of_ble_eq_true rfl) dX5_town_58 (fun H locs hP hD hS => ?_)
        have hP : va_P G.1 vwCl [(o, .inr (5, [.int (nI 0), .int ftr, .ref aso, .ref asl, .ref ace, .int (nI M), .int (nI B), .ref ape, .ref aki, .ref abo, .int (nI ((60 * k) + i)), .int rM, .int rB, .ref arp, .ref ark, .ref arb, .int fb, .int fto, .int (nI R), .ref awh, .ref awn, .ref awm, .ref awk, .ref amo, .ref amu])), (aso, aI G 4 SO), (asl, aI G 4 SL), (ace, aI G 240 CE), (arp, aI G 25 RP), (ark, aI G 4 RK), (arb, aI G 4 RB)] H := hP
        have hD : va_D A [(o, .inr (5, [.int (nI 0), .int ftr, .ref aso, .ref asl, .ref ace, .int (nI M), .int (nI B), .ref ape, .ref aki, .ref abo, .int (nI ((60 * k) + i)), .int rM, .int rB, .ref arp, .ref ark, .ref arb, .int fb, .int fto, .int (nI R), .ref awh, .ref awn, .ref awm, .ref awk, .ref amo, .ref amu])), (aso, aI G 4 SO), (asl, aI G 4 SL), (ace, aI G 240 CE), (arp, aI G 25 RP), (ark, aI G 4 RK), (arb, aI G 4 RB)] := hD
        refine lv_aload_n hx hb dX5_town_61 rfl (lv_at hl 2 rfl) ?_
        refine lv_iload hx hb dX5_town_62 (lv_at hl 0 rfl) ?_
        refine lv_iload hx hb dX5_town_64 (lv_at hl 6 rfl) ?_
        refine lv_iadd hx hb dX5_town_66 ?_
        refine lv_tope (show (nI ((60 * k) + i)) + (nI n) = nI (((60 * k) + i) + n) from nI_add _ _) ?_
        refine weV (As := [.int (nI (((60 * k) + i) + n))]) (rest := []) (ci := 5) (q0 := 0) hE (kX5_readTown l G o (nI 0) ftr aso asl ace M B ape aki abo rM rB arp ark arb fb fto R awh awn awm awk amo amu CE RP RK RB ((60 * k) + i) n M9 hMt (by omega)) (cwV 1 hts gX5_town_X5_readTown rfl rfl rfl (by decide +kernel) ⟨Nat.le_of_ble_eq_true rfl, Nat.le_of_ble_eq_true rfl⟩) hP hK hD hS [0, 3, 4, 5, 6] (by decide) rfl rfl rfl rfl hl.1 rfl (Nat.le_of_ble_eq_true rfl) dX5_town_67 ⟨Nat.zero_le _, Nat.zero_le _⟩ (fun rv9 w9 H locs hF9 hP hD hS => ?_)
        obtain ⟨at9_4, rM9_4, rB9_4, RP9_4, RK9_4, RB9_4, rfl, rfl, hy9_4, hn9_4⟩ := hF9
        have hP : va_P G.1 vwCl [(o, .inr (5, [.int (nI 0), .int ftr, .ref aso, .ref asl, .ref ace, .int (nI M), .int (nI B), .ref ape, .ref aki, .ref abo, .int (nI at9_4), .int rM9_4, .int rB9_4, .ref arp, .ref ark, .ref arb, .int fb, .int fto, .int (nI R), .ref awh, .ref awn, .ref awm, .ref awk, .ref amo, .ref amu])), (aso, aI G 4 SO), (asl, aI G 4 SL), (ace, aI G 240 CE), (arp, aI G 25 RP9_4), (ark, aI G 4 RK9_4), (arb, aI G 4 RB9_4)] H := hP
        have hD : va_D A [(o, .inr (5, [.int (nI 0), .int ftr, .ref aso, .ref asl, .ref ace, .int (nI M), .int (nI B), .ref ape, .ref aki, .ref abo, .int (nI at9_4), .int rM9_4, .int rB9_4, .ref arp, .ref ark, .ref arb, .int fb, .int fto, .int (nI R), .ref awh, .ref awn, .ref awm, .ref awk, .ref amo, .ref amu])), (aso, aI G 4 SO), (asl, aI G 4 SL), (ace, aI G 240 CE), (arp, aI G 25 RP9_4), (ark, aI G 4 RK9_4), (arb, aI G 4 RB9_4)] := hD
        refine W.eq (g2 := F0 m 70 ls [.int (bI (okT (fun t => CE (((60 * k) + i) + t)) M9 n))]) rfl ?_
        have hat := hn9_4 hno
        refine bz_ne (tgt := 84) hx hb dX5_town_70 (by decide) (fun c5 => ?_) (fun c5 => ?_)
        ·
          exact absurd c5 hno
        ·
          refine lv_bipush (v := (-100)) hx hb dX5_town_73 (by decide) ?_
          refine lv_aload_n hx hb dX5_town_75 rfl (lv_at hl 2 rfl) ?_
          refine g_get (v := .int (nI at9_4)) hx hb hts ixX5_town_X5 hown hK hP 0 rfl rfl 10 (by decide) lkX5_town_71 rfl dX5_town_76 ?_
          refine lv_iload hx hb dX5_town_79 (lv_at hl 0 rfl) ?_
          refine lv_isub hx hb dX5_town_81 ?_
          refine lv_tope (show (nI at9_4) - (nI ((60 * k) + i)) = nI (at9_4 - ((60 * k) + i)) from pk_sub (by omega)) ?_
          refine lv_isub hx hb dX5_town_82 ?_
          exact hret _ _ _ _ _ [(o, .inr (5, [.int (nI 0), .int ftr, .ref aso, .ref asl, .ref ace, .int (nI M), .int (nI B), .ref ape, .ref aki, .ref abo, .int (nI at9_4), .int rM9_4, .int rB9_4, .ref arp, .ref ark, .ref arb, .int fb, .int fto, .int (nI R), .ref awh, .ref awn, .ref awm, .ref awk, .ref amo, .ref amu])), (aso, aI G 4 SO), (asl, aI G 4 SL), (ace, aI G 240 CE), (arp, aI G 25 RP9_4), (ark, aI G 4 RK9_4), (arb, aI G 4 RB9_4)] ⟨nI at9_4, rM9_4, rB9_4, RP9_4, RK9_4, RB9_4, (congrArg (fun z => some (Value.int z)) (by rw [hat, Nat.add_sub_cancel_left])), rfl⟩ rfl hP hS dX5_town_83
      ·
        exact absurd hft c3
    ·
      exact absurd hln c2
  ·
    exact absurd (vp_in_nI hk4 (by omega)) c1

theorem lkX5_town_92 : Cond.fieldLink RX5 92 (TX5 11).1 (TX5 11).2.1 (TX5 11).2.2.1 ∈ wsX5_town := List.mem_of_getElem? (i := 3) rfl
theorem lkX5_town_65 : Cond.fieldLink RX5 65 (TX5 5).1 (TX5 5).2.1 (TX5 5).2.2.1 ∈ wsX5_town := List.mem_of_getElem? (i := 4) rfl
theorem lkX5_town_95 : Cond.fieldLink RX5 95 (TX5 12).1 (TX5 12).2.1 (TX5 12).2.2.1 ∈ wsX5_town := List.mem_of_getElem? (i := 5) rfl
theorem lkX5_town_68 : Cond.fieldLink RX5 68 (TX5 6).1 (TX5 6).2.1 (TX5 6).2.2.1 ∈ wsX5_town := List.mem_of_getElem? (i := 6) rfl
theorem lkX5_town_98 : Cond.fieldLink RX5 98 (TX5 18).1 (TX5 18).2.1 (TX5 18).2.2.1 ∈ wsX5_town := List.mem_of_getElem? (i := 13) rfl
theorem lkX5_town_22 : Cond.fieldLink RX5 22 (TX5 8).1 (TX5 8).2.1 (TX5 8).2.2.1 ∈ wsX5_town := List.mem_of_getElem? (i := 9) rfl
theorem lkX5_town_31 : Cond.fieldLink RX5 31 (TX5 14).1 (TX5 14).2.1 (TX5 14).2.2.1 ∈ wsX5_town := List.mem_of_getElem? (i := 10) rfl
theorem lkX5_town_25 : Cond.fieldLink RX5 25 (TX5 9).1 (TX5 9).2.1 (TX5 9).2.2.1 ∈ wsX5_town := List.mem_of_getElem? (i := 11) rfl
theorem lkX5_town_34 : Cond.fieldLink RX5 34 (TX5 15).1 (TX5 15).2.1 (TX5 15).2.2.1 ∈ wsX5_town := List.mem_of_getElem? (i := 12) rfl
theorem lkX5_town_19 : Cond.fieldLink RX5 19 (TX5 7).1 (TX5 7).2.1 (TX5 7).2.2.1 ∈ wsX5_town := List.mem_of_getElem? (i := 7) rfl
theorem lkX5_town_28 : Cond.fieldLink RX5 28 (TX5 13).1 (TX5 13).2.1 (TX5 13).2.2.1 ∈ wsX5_town := List.mem_of_getElem? (i := 8) rfl
set_option maxHeartbeats 4000000 in
set_option maxRecDepth 100000 in
theorem kX5_towng (l : Launch) (G : Gl) (o : Nat) (ff : Int32) (ftr : Int32) (aso : Nat) (asl : Nat) (ace : Nat) (M : Nat) (B : Nat) (ape : Nat) (aki : Nat) (abo : Nat) (at_ : Int32) (rM : Int32) (rB : Int32) (arp : Nat) (ark : Nat) (arb : Nat) (fb : Int32) (fto : Int32) (R : Nat) (awh : Nat) (awn : Nat) (awm : Nat) (awk : Nat) (amo : Nat) (amu : Nat) (SO : Nat → Int32) (SL : Nat → Int32) (CE : Nat → Int32) (RP : Nat → Int32) (RK : Nat → Int32) (RB : Nat → Int32) (k : Nat) (L : Nat) (lane : Int32) (i : Nat) (n : Nat) (M9 : Nat) (P : Nat → Int32) (K : Nat → Int32) (U : Nat → Int32) (B9 : Nat) (hk4 : k < 4) (hl9 : SL k = nI L) (hln : vp_in lane (2 + 1)) (hft : (ft (-9) (SO k) L lane (nI i) (nI n)) = 0) (hin9 : i + n ≤ 60) (hMt : M9 = mT (fun t => CE (((60 * k) + i) + t)) n) (hok : okT (fun t => CE (((60 * k) + i) + t)) M9 n) (hM5 : M9 ≤ 5) (hBn : B9 = ((n - (2 + M9 * (M9 + 1))) / 3)) (hB4 : B9 ≤ 4) : WtE l G yX5_town wsX5_town ({ frames := 4, cells := 0, slots := 0, locals := 90 } : Room) [.ref o, .int (nI k), .int lane, .int (nI i), .int (nI n)] [(o, .inr (5, [.int ff, .int ftr, .ref aso, .ref asl, .ref ace, .int (nI M), .int (nI B), .ref ape, .ref aki, .ref abo, .int at_, .int rM, .int rB, .ref arp, .ref ark, .ref arb, .int fb, .int fto, .int (nI R), .ref awh, .ref awn, .ref awm, .ref awk, .ref amo, .ref amu])), (ape, aI G 25 P), (aki, aI G 4 K), (abo, aI G 4 U), (aso, aI G 4 SO), (asl, aI G 4 SL), (ace, aI G 240 CE), (arp, aI G 25 RP), (ark, aI G 4 RK), (arb, aI G 4 RB)] (fun rv9 w9 => ∃ (at9 : Int32), rv9 = some (.int (nI B9)) ∧ w9 = [(o, .inr (5, [.int (nI 0), .int ftr, .ref aso, .ref asl, .ref ace, .int (nI M9), .int (nI B9), .ref ape, .ref aki, .ref abo, .int at9, .int (nI M9), .int (nI B9), .ref arp, .ref ark, .ref arb, .int fb, .int fto, .int (nI 0), .ref awh, .ref awn, .ref awm, .ref awk, .ref amo, .ref amu])), (ape, aI G 25 (cpA P (rtP RP CE M9 ((60 * k) + i) M9) 25)), (aki, aI G 4 (cpA K (rtK RK CE (((60 * k) + i) + (2 + M9 * (M9 + 1))) B9) B9)), (abo, aI G 4 (cpA U (rtB RB CE (((60 * k) + i) + (2 + M9 * (M9 + 1))) B9) B9)), (aso, aI G 4 SO), (asl, aI G 4 SL), (ace, aI G 240 CE), (arp, aI G 25 (rtP RP CE M9 ((60 * k) + i) M9)), (ark, aI G 4 (rtK RK CE (((60 * k) + i) + (2 + M9 * (M9 + 1))) B9)), (arb, aI G 4 (rtB RB CE (((60 * k) + i) + (2 + M9 * (M9 + 1))) B9))]) := by
  refine WtE.ofI (cc := cX5_town) (maxL := 8) (by decide) rfl (Nat.le_of_ble_eq_true rfl) ?_
  intro p e s m below meth c Q A ls hE hP hK hD hS hl hret
  obtain ⟨hx, hb, hml, hown, hts⟩ := id hE
  have hl : lv_has ls 8 [(0, .ref o), (1, .int (nI k)), (2, .int lane), (3, .int (nI i)), (4, .int (nI n))] := hl
  refine lv_aload_n hx hb dX5_town_0 rfl (lv_at hl 0 rfl) ?_
  refine lv_iconst (v := nI 0) hx hb dX5_town_1 (by decide) ?_
  refine g_put (v := (nI 0)) hx hb hts ixX5_town_X5 tyX5 tyX5_ok nmX5 hown hK hP hD hS 0 rfl rfl 0 (by decide) lkX5_town_55 rfl rfl (Nat.le_of_ble_eq_true rfl) dX5_town_2 (fun H locs hP hD hS => ?_)
  have hP : va_P G.1 vwCl [(o, .inr (5, [.int (nI 0), .int ftr, .ref aso, .ref asl, .ref ace, .int (nI M), .int (nI B), .ref ape, .ref aki, .ref abo, .int at_, .int rM, .int rB, .ref arp, .ref ark, .ref arb, .int fb, .int fto, .int (nI R), .ref awh, .ref awn, .ref awm, .ref awk, .ref amo, .ref amu])), (ape, aI G 25 P), (aki, aI G 4 K), (abo, aI G 4 U), (aso, aI G 4 SO), (asl, aI G 4 SL), (ace, aI G 240 CE), (arp, aI G 25 RP), (ark, aI G 4 RK), (arb, aI G 4 RB)] H := hP
  have hD : va_D A [(o, .inr (5, [.int (nI 0), .int ftr, .ref aso, .ref asl, .ref ace, .int (nI M), .int (nI B), .ref ape, .ref aki, .ref abo, .int at_, .int rM, .int rB, .ref arp, .ref ark, .ref arb, .int fb, .int fto, .int (nI R), .ref awh, .ref awn, .ref awm, .ref awk, .ref amo, .ref amu])), (ape, aI G 25 P), (aki, aI G 4 K), (abo, aI G 4 U), (aso, aI G 4 SO), (asl, aI G 4 SL), (ace, aI G 240 CE), (arp, aI G 25 RP), (ark, aI G 4 RK), (arb, aI G 4 RB)] := hD
  refine lv_iload_n hx hb dX5_town_5 rfl (lv_at hl 1 rfl) ?_
  refine rdS (As := [.int (nI k)]) (rest := []) hE (kX5_isSheet l G (nI k) ) (va_cwS 1 hts gX5_town_X5_isSheet rfl rfl rfl (by decide +kernel) ⟨Nat.le_of_ble_eq_true rfl, Nat.le_of_ble_eq_true rfl⟩) hP hK [] rfl rfl hl.1 rfl (Nat.le_of_ble_eq_true rfl) dX5_town_6 ⟨Nat.zero_le _, Nat.zero_le _⟩ ?_
  refine W.eq (g2 := F0 m 9 ls [.int (bI (vp_in (nI k) 4))]) rfl ?_
  refine bz_ne (tgt := 14) hx hb dX5_town_9 (by decide) (fun c1 => ?_) (fun c1 => ?_)
  ·
    refine lv_iload_n hx hb dX5_town_14 rfl (lv_at hl 2 rfl) ?_
    refine rdS (As := [.int lane]) (rest := []) hE (kX5_isSort l G lane ) (va_cwS 1 hts gX5_town_X5_isSort rfl rfl rfl (by decide +kernel) ⟨Nat.le_of_ble_eq_true rfl, Nat.le_of_ble_eq_true rfl⟩) hP hK [] rfl rfl hl.1 rfl (Nat.le_of_ble_eq_true rfl) dX5_town_15 ⟨Nat.zero_le _, Nat.zero_le _⟩ ?_
    refine W.eq (g2 := F0 m 18 ls [.int (bI (vp_in lane (2 + 1)))]) rfl ?_
    refine bz_ne (tgt := 24) hx hb dX5_town_18 (by decide) (fun c2 => ?_) (fun c2 => ?_)
    ·
      refine lv_aload_n hx hb dX5_town_24 rfl (lv_at hl 0 rfl) ?_
      refine lv_iload_n hx hb dX5_town_25 rfl (lv_at hl 1 rfl) ?_
      refine lv_iload_n hx hb dX5_town_26 rfl (lv_at hl 2 rfl) ?_
      refine lv_iload_n hx hb dX5_town_27 rfl (lv_at hl 3 rfl) ?_
      refine lv_iload hx hb dX5_town_28 (lv_at hl 4 rfl) ?_
      refine rdV (As := [.int (nI k), .int lane, .int (nI i), .int (nI n)]) (rest := []) (ci := 5) (q0 := 0) hE (kX5_against l G o (nI 0) ftr aso asl ace M B ape aki abo at_ rM rB arp ark arb fb fto R awh awn awm awk amo amu SO SL k L lane (nI i) (nI n) hk4 hl9) (cwV 4 hts gX5_town_X5_against rfl rfl rfl (by decide +kernel) ⟨Nat.le_of_ble_eq_true rfl, Nat.le_of_ble_eq_true rfl⟩) hP hK [0, 4, 5] rfl rfl rfl rfl hl.1 rfl (Nat.le_of_ble_eq_true rfl) dX5_town_30 ⟨Nat.zero_le _, Nat.zero_le _⟩ ?_
      refine W.eq (g2 := F0 m 33 ls [.int (ft (-9) (SO k) L lane (nI i) (nI n))]) rfl ?_
      refine lv_istore (lv' := [(5, .int (ft (-9) (SO k) L lane (nI i) (nI n))), (0, .ref o), (1, .int (nI k)), (2, .int lane), (3, .int (nI i)), (4, .int (nI n))]) hx hb dX5_town_33 hl (by decide) rfl (fun ls hl => ?_)
      refine lv_iload hx hb dX5_town_35 (lv_at hl 0 rfl) ?_
      refine lv_if_eq (tgt := 47) hx hb dX5_town_37 (by decide) (fun c3 => ?_) (fun c3 => ?_)
      ·
        refine lv_bipush (v := nI 60) hx hb dX5_town_47 (by decide) ?_
        refine lv_iload_n hx hb dX5_town_49 rfl (lv_at hl 2 rfl) ?_
        refine lv_imul hx hb dX5_town_50 ?_
        refine lv_tope (show (nI 60) * (nI k) = nI (60 * k) from pk_mul _ _) ?_
        refine lv_iload_n hx hb dX5_town_51 rfl (lv_at hl 4 rfl) ?_
        refine lv_iadd hx hb dX5_town_52 ?_
        refine lv_tope (show (nI (60 * k)) + (nI i) = nI ((60 * k) + i) from nI_add _ _) ?_
        refine lv_istore (lv' := [(6, .int (nI ((60 * k) + i))), (5, .int (ft (-9) (SO k) L lane (nI i) (nI n))), (0, .ref o), (1, .int (nI k)), (2, .int lane), (3, .int (nI i)), (4, .int (nI n))]) hx hb dX5_town_53 hl (by decide) rfl (fun ls hl => ?_)
        refine lv_aload_n hx hb dX5_town_55 rfl (lv_at hl 2 rfl) ?_
        refine lv_iload hx hb dX5_town_56 (lv_at hl 0 rfl) ?_
        refine g_put (v := (nI ((60 * k) + i))) hx hb hts ixX5_town_X5 tyX5 tyX5_ok nmX5 hown hK hP hD hS 0 rfl rfl 10 (by decide) lkX5_town_71 rfl rfl (Nat.le_of_ble_eq_true rfl) dX5_town_58 (fun H locs hP hD hS => ?_)
        have hP : va_P G.1 vwCl [(o, .inr (5, [.int (nI 0), .int ftr, .ref aso, .ref asl, .ref ace, .int (nI M), .int (nI B), .ref ape, .ref aki, .ref abo, .int (nI ((60 * k) + i)), .int rM, .int rB, .ref arp, .ref ark, .ref arb, .int fb, .int fto, .int (nI R), .ref awh, .ref awn, .ref awm, .ref awk, .ref amo, .ref amu])), (ape, aI G 25 P), (aki, aI G 4 K), (abo, aI G 4 U), (aso, aI G 4 SO), (asl, aI G 4 SL), (ace, aI G 240 CE), (arp, aI G 25 RP), (ark, aI G 4 RK), (arb, aI G 4 RB)] H := hP
        have hD : va_D A [(o, .inr (5, [.int (nI 0), .int ftr, .ref aso, .ref asl, .ref ace, .int (nI M), .int (nI B), .ref ape, .ref aki, .ref abo, .int (nI ((60 * k) + i)), .int rM, .int rB, .ref arp, .ref ark, .ref arb, .int fb, .int fto, .int (nI R), .ref awh, .ref awn, .ref awm, .ref awk, .ref amo, .ref amu])), (ape, aI G 25 P), (aki, aI G 4 K), (abo, aI G 4 U), (aso, aI G 4 SO), (asl, aI G 4 SL), (ace, aI G 240 CE), (arp, aI G 25 RP), (ark, aI G 4 RK), (arb, aI G 4 RB)] := hD
        refine lv_aload_n hx hb dX5_town_61 rfl (lv_at hl 2 rfl) ?_
        refine lv_iload hx hb dX5_town_62 (lv_at hl 0 rfl) ?_
        refine lv_iload hx hb dX5_town_64 (lv_at hl 6 rfl) ?_
        refine lv_iadd hx hb dX5_town_66 ?_
        refine lv_tope (show (nI ((60 * k) + i)) + (nI n) = nI (((60 * k) + i) + n) from nI_add _ _) ?_
        refine weV (As := [.int (nI (((60 * k) + i) + n))]) (rest := []) (ci := 5) (q0 := 0) hE (kX5_readTown l G o (nI 0) ftr aso asl ace M B ape aki abo rM rB arp ark arb fb fto R awh awn awm awk amo amu CE RP RK RB ((60 * k) + i) n M9 hMt (by omega)) (cwV 1 hts gX5_town_X5_readTown rfl rfl rfl (by decide +kernel) ⟨Nat.le_of_ble_eq_true rfl, Nat.le_of_ble_eq_true rfl⟩) hP hK hD hS [0, 6, 7, 8, 9] (by decide) rfl rfl rfl rfl hl.1 rfl (Nat.le_of_ble_eq_true rfl) dX5_town_67 ⟨Nat.zero_le _, Nat.zero_le _⟩ (fun rv9 w9 H locs hF9 hP hD hS => ?_)
        obtain ⟨at9_4, rM9_4, rB9_4, RP9_4, RK9_4, RB9_4, rfl, rfl, hy9_4, hn9_4⟩ := hF9
        have hP : va_P G.1 vwCl [(o, .inr (5, [.int (nI 0), .int ftr, .ref aso, .ref asl, .ref ace, .int (nI M), .int (nI B), .ref ape, .ref aki, .ref abo, .int (nI at9_4), .int rM9_4, .int rB9_4, .ref arp, .ref ark, .ref arb, .int fb, .int fto, .int (nI R), .ref awh, .ref awn, .ref awm, .ref awk, .ref amo, .ref amu])), (ape, aI G 25 P), (aki, aI G 4 K), (abo, aI G 4 U), (aso, aI G 4 SO), (asl, aI G 4 SL), (ace, aI G 240 CE), (arp, aI G 25 RP9_4), (ark, aI G 4 RK9_4), (arb, aI G 4 RB9_4)] H := hP
        have hD : va_D A [(o, .inr (5, [.int (nI 0), .int ftr, .ref aso, .ref asl, .ref ace, .int (nI M), .int (nI B), .ref ape, .ref aki, .ref abo, .int (nI at9_4), .int rM9_4, .int rB9_4, .ref arp, .ref ark, .ref arb, .int fb, .int fto, .int (nI R), .ref awh, .ref awn, .ref awm, .ref awk, .ref amo, .ref amu])), (ape, aI G 25 P), (aki, aI G 4 K), (abo, aI G 4 U), (aso, aI G 4 SO), (asl, aI G 4 SL), (ace, aI G 240 CE), (arp, aI G 25 RP9_4), (ark, aI G 4 RK9_4), (arb, aI G 4 RB9_4)] := hD
        refine W.eq (g2 := F0 m 70 ls [.int (bI (okT (fun t => CE (((60 * k) + i) + t)) M9 n))]) rfl ?_
        obtain ⟨e1, e2, e3, e4, e5⟩ := hy9_4 hok
        rw [← hBn] at e2 e4 e5
        subst e1 e2 e3 e4 e5
        refine bz_ne (tgt := 84) hx hb dX5_town_70 (by decide) (fun c5 => ?_) (fun c5 => ?_)
        ·
          refine lv_aload_n hx hb dX5_town_84 rfl (lv_at hl 2 rfl) ?_
          refine lv_aload_n hx hb dX5_town_85 rfl (lv_at hl 2 rfl) ?_
          refine g_get (v := .int (nI M9)) hx hb hts ixX5_town_X5 hown hK hP 0 rfl rfl 11 (by decide) lkX5_town_92 rfl dX5_town_86 ?_
          refine g_put (v := (nI M9)) hx hb hts ixX5_town_X5 tyX5 tyX5_ok nmX5 hown hK hP hD hS 0 rfl rfl 5 (by decide) lkX5_town_65 rfl rfl (Nat.le_of_ble_eq_true rfl) dX5_town_89 (fun H locs hP hD hS => ?_)
          have hP : va_P G.1 vwCl [(o, .inr (5, [.int (nI 0), .int ftr, .ref aso, .ref asl, .ref ace, .int (nI M9), .int (nI B), .ref ape, .ref aki, .ref abo, .int (nI at9_4), .int (nI M9), .int (nI B9), .ref arp, .ref ark, .ref arb, .int fb, .int fto, .int (nI R), .ref awh, .ref awn, .ref awm, .ref awk, .ref amo, .ref amu])), (ape, aI G 25 P), (aki, aI G 4 K), (abo, aI G 4 U), (aso, aI G 4 SO), (asl, aI G 4 SL), (ace, aI G 240 CE), (arp, aI G 25 (rtP RP CE M9 ((60 * k) + i) M9)), (ark, aI G 4 (rtK RK CE (((60 * k) + i) + (2 + M9 * (M9 + 1))) B9)), (arb, aI G 4 (rtB RB CE (((60 * k) + i) + (2 + M9 * (M9 + 1))) B9))] H := hP
          have hD : va_D A [(o, .inr (5, [.int (nI 0), .int ftr, .ref aso, .ref asl, .ref ace, .int (nI M9), .int (nI B), .ref ape, .ref aki, .ref abo, .int (nI at9_4), .int (nI M9), .int (nI B9), .ref arp, .ref ark, .ref arb, .int fb, .int fto, .int (nI R), .ref awh, .ref awn, .ref awm, .ref awk, .ref amo, .ref amu])), (ape, aI G 25 P), (aki, aI G 4 K), (abo, aI G 4 U), (aso, aI G 4 SO), (asl, aI G 4 SL), (ace, aI G 240 CE), (arp, aI G 25 (rtP RP CE M9 ((60 * k) + i) M9)), (ark, aI G 4 (rtK RK CE (((60 * k) + i) + (2 + M9 * (M9 + 1))) B9)), (arb, aI G 4 (rtB RB CE (((60 * k) + i) + (2 + M9 * (M9 + 1))) B9))] := hD
          refine lv_aload_n hx hb dX5_town_92 rfl (lv_at hl 2 rfl) ?_
          refine lv_aload_n hx hb dX5_town_93 rfl (lv_at hl 2 rfl) ?_
          refine g_get (v := .int (nI B9)) hx hb hts ixX5_town_X5 hown hK hP 0 rfl rfl 12 (by decide) lkX5_town_95 rfl dX5_town_94 ?_
          refine g_put (v := (nI B9)) hx hb hts ixX5_town_X5 tyX5 tyX5_ok nmX5 hown hK hP hD hS 0 rfl rfl 6 (by decide) lkX5_town_68 rfl rfl (Nat.le_of_ble_eq_true rfl) dX5_town_97 (fun H locs hP hD hS => ?_)
          have hP : va_P G.1 vwCl [(o, .inr (5, [.int (nI 0), .int ftr, .ref aso, .ref asl, .ref ace, .int (nI M9), .int (nI B9), .ref ape, .ref aki, .ref abo, .int (nI at9_4), .int (nI M9), .int (nI B9), .ref arp, .ref ark, .ref arb, .int fb, .int fto, .int (nI R), .ref awh, .ref awn, .ref awm, .ref awk, .ref amo, .ref amu])), (ape, aI G 25 P), (aki, aI G 4 K), (abo, aI G 4 U), (aso, aI G 4 SO), (asl, aI G 4 SL), (ace, aI G 240 CE), (arp, aI G 25 (rtP RP CE M9 ((60 * k) + i) M9)), (ark, aI G 4 (rtK RK CE (((60 * k) + i) + (2 + M9 * (M9 + 1))) B9)), (arb, aI G 4 (rtB RB CE (((60 * k) + i) + (2 + M9 * (M9 + 1))) B9))] H := hP
          have hD : va_D A [(o, .inr (5, [.int (nI 0), .int ftr, .ref aso, .ref asl, .ref ace, .int (nI M9), .int (nI B9), .ref ape, .ref aki, .ref abo, .int (nI at9_4), .int (nI M9), .int (nI B9), .ref arp, .ref ark, .ref arb, .int fb, .int fto, .int (nI R), .ref awh, .ref awn, .ref awm, .ref awk, .ref amo, .ref amu])), (ape, aI G 25 P), (aki, aI G 4 K), (abo, aI G 4 U), (aso, aI G 4 SO), (asl, aI G 4 SL), (ace, aI G 240 CE), (arp, aI G 25 (rtP RP CE M9 ((60 * k) + i) M9)), (ark, aI G 4 (rtK RK CE (((60 * k) + i) + (2 + M9 * (M9 + 1))) B9)), (arb, aI G 4 (rtB RB CE (((60 * k) + i) + (2 + M9 * (M9 + 1))) B9))] := hD
          refine lv_iconst (v := nI 0) hx hb dX5_town_100 (by decide) ?_
          refine lv_istore (lv' := [(7, .int (nI 0)), (6, .int (nI ((60 * k) + i))), (5, .int (ft (-9) (SO k) L lane (nI i) (nI n))), (0, .ref o), (1, .int (nI k)), (2, .int lane), (3, .int (nI i)), (4, .int (nI n))]) hx hb dX5_town_101 hl (by decide) rfl (fun ls hl => ?_)
          have loop1 : ∀ (d q0 : Nat) (H : Heap) (locs : List Loc) (ls : Array Slot), 25 < q0 + d → q0 ≤ 25 → va_P G.1 vwCl [(o, .inr (5, [.int (nI 0), .int ftr, .ref aso, .ref asl, .ref ace, .int (nI M9), .int (nI B9), .ref ape, .ref aki, .ref abo, .int (nI at9_4), .int (nI M9), .int (nI B9), .ref arp, .ref ark, .ref arb, .int fb, .int fto, .int (nI R), .ref awh, .ref awn, .ref awm, .ref awk, .ref amo, .ref amu])), (ape, aI G 25 (cpA P (rtP RP CE M9 ((60 * k) + i) M9) q0)), (aki, aI G 4 K), (abo, aI G 4 U), (aso, aI G 4 SO), (asl, aI G 4 SL), (ace, aI G 240 CE), (arp, aI G 25 (rtP RP CE M9 ((60 * k) + i) M9)), (ark, aI G 4 (rtK RK CE (((60 * k) + i) + (2 + M9 * (M9 + 1))) B9)), (arb, aI G 4 (rtB RB CE (((60 * k) + i) + (2 + M9 * (M9 + 1))) B9))] H → va_D A [(o, .inr (5, [.int (nI 0), .int ftr, .ref aso, .ref asl, .ref ace, .int (nI M9), .int (nI B9), .ref ape, .ref aki, .ref abo, .int (nI at9_4), .int (nI M9), .int (nI B9), .ref arp, .ref ark, .ref arb, .int fb, .int fto, .int (nI R), .ref awh, .ref awn, .ref awm, .ref awk, .ref amo, .ref amu])), (ape, aI G 25 (cpA P (rtP RP CE M9 ((60 * k) + i) M9) q0)), (aki, aI G 4 K), (abo, aI G 4 U), (aso, aI G 4 SO), (asl, aI G 4 SL), (ace, aI G 240 CE), (arp, aI G 25 (rtP RP CE M9 ((60 * k) + i) M9)), (ark, aI G 4 (rtK RK CE (((60 * k) + i) + (2 + M9 * (M9 + 1))) B9)), (arb, aI G 4 (rtB RB CE (((60 * k) + i) + (2 + M9 * (M9 + 1))) B9))] → va_S A s.heap H locs → lv_has ls 8 [(7, .int (nI q0)), (6, .int (nI ((60 * k) + i))), (5, .int (ft (-9) (SO k) L lane (nI i) (nI n))), (0, .ref o), (1, .int (nI k)), (2, .int lane), (3, .int (nI i)), (4, .int (nI n))] → W p l e ({ frames := 4, cells := 0, slots := 0, locals := 90 } : Room) s m ([.ref o, .int (nI k), .int lane, .int (nI i), .int (nI n)] : List Value).toArray below meth c H locs 0 0 Q (F0 m 103 ls []) := by
            intro d
            induction d with
            | zero =>
              intro q0 H locs ls h1 h2
              omega
            | succ d ih1 =>
              intro q0 H locs ls hdq0 hbq0 hP hD hS hl
              refine lv_iload hx hb dX5_town_103 (lv_at hl 0 rfl) ?_
              refine lv_bipush (v := nI 25) hx hb dX5_town_105 (by decide) ?_
              refine ic_ge (tgt := 130) hx hb (by omega) (by omega) dX5_town_107 (by decide) (fun c6 => ?_) (fun c6 => ?_)
              ·
                obtain rfl : 25 = q0 := by omega
                refine lv_iconst (v := nI 0) hx hb dX5_town_130 (by decide) ?_
                refine lv_istore (lv' := [(7, .int (nI 0)), (6, .int (nI ((60 * k) + i))), (5, .int (ft (-9) (SO k) L lane (nI i) (nI n))), (0, .ref o), (1, .int (nI k)), (2, .int lane), (3, .int (nI i)), (4, .int (nI n))]) hx hb dX5_town_131 hl (by decide) rfl (fun ls hl => ?_)
                have loop2 : ∀ (d q1 : Nat) (H : Heap) (locs : List Loc) (ls : Array Slot), B9 < q1 + d → q1 ≤ B9 → va_P G.1 vwCl [(o, .inr (5, [.int (nI 0), .int ftr, .ref aso, .ref asl, .ref ace, .int (nI M9), .int (nI B9), .ref ape, .ref aki, .ref abo, .int (nI at9_4), .int (nI M9), .int (nI B9), .ref arp, .ref ark, .ref arb, .int fb, .int fto, .int (nI R), .ref awh, .ref awn, .ref awm, .ref awk, .ref amo, .ref amu])), (ape, aI G 25 (cpA P (rtP RP CE M9 ((60 * k) + i) M9) 25)), (aki, aI G 4 (cpA K (rtK RK CE (((60 * k) + i) + (2 + M9 * (M9 + 1))) B9) q1)), (abo, aI G 4 (cpA U (rtB RB CE (((60 * k) + i) + (2 + M9 * (M9 + 1))) B9) q1)), (aso, aI G 4 SO), (asl, aI G 4 SL), (ace, aI G 240 CE), (arp, aI G 25 (rtP RP CE M9 ((60 * k) + i) M9)), (ark, aI G 4 (rtK RK CE (((60 * k) + i) + (2 + M9 * (M9 + 1))) B9)), (arb, aI G 4 (rtB RB CE (((60 * k) + i) + (2 + M9 * (M9 + 1))) B9))] H → va_D A [(o, .inr (5, [.int (nI 0), .int ftr, .ref aso, .ref asl, .ref ace, .int (nI M9), .int (nI B9), .ref ape, .ref aki, .ref abo, .int (nI at9_4), .int (nI M9), .int (nI B9), .ref arp, .ref ark, .ref arb, .int fb, .int fto, .int (nI R), .ref awh, .ref awn, .ref awm, .ref awk, .ref amo, .ref amu])), (ape, aI G 25 (cpA P (rtP RP CE M9 ((60 * k) + i) M9) 25)), (aki, aI G 4 (cpA K (rtK RK CE (((60 * k) + i) + (2 + M9 * (M9 + 1))) B9) q1)), (abo, aI G 4 (cpA U (rtB RB CE (((60 * k) + i) + (2 + M9 * (M9 + 1))) B9) q1)), (aso, aI G 4 SO), (asl, aI G 4 SL), (ace, aI G 240 CE), (arp, aI G 25 (rtP RP CE M9 ((60 * k) + i) M9)), (ark, aI G 4 (rtK RK CE (((60 * k) + i) + (2 + M9 * (M9 + 1))) B9)), (arb, aI G 4 (rtB RB CE (((60 * k) + i) + (2 + M9 * (M9 + 1))) B9))] → va_S A s.heap H locs → lv_has ls 8 [(7, .int (nI q1)), (6, .int (nI ((60 * k) + i))), (5, .int (ft (-9) (SO k) L lane (nI i) (nI n))), (0, .ref o), (1, .int (nI k)), (2, .int lane), (3, .int (nI i)), (4, .int (nI n))] → W p l e ({ frames := 4, cells := 0, slots := 0, locals := 90 } : Room) s m ([.ref o, .int (nI k), .int lane, .int (nI i), .int (nI n)] : List Value).toArray below meth c H locs 0 0 Q (F0 m 133 ls []) := by
                  intro d
                  induction d with
                  | zero =>
                    intro q1 H locs ls h1 h2
                    omega
                  | succ d ih2 =>
                    intro q1 H locs ls hdq1 hbq1 hP hD hS hl
                    refine lv_iload hx hb dX5_town_133 (lv_at hl 0 rfl) ?_
                    refine lv_aload_n hx hb dX5_town_135 rfl (lv_at hl 3 rfl) ?_
                    refine g_get (v := .int (nI B9)) hx hb hts ixX5_town_X5 hown hK hP 0 rfl rfl 6 (by decide) lkX5_town_68 rfl dX5_town_136 ?_
                    refine ic_ge (tgt := 176) hx hb (by omega) (by omega) dX5_town_139 (by decide) (fun c7 => ?_) (fun c7 => ?_)
                    ·
                      obtain rfl : B9 = q1 := by omega
                      refine lv_aload_n hx hb dX5_town_176 rfl (lv_at hl 3 rfl) ?_
                      refine lv_iconst (v := nI 0) hx hb dX5_town_177 (by decide) ?_
                      refine g_put (v := (nI 0)) hx hb hts ixX5_town_X5 tyX5 tyX5_ok nmX5 hown hK hP hD hS 0 rfl rfl 18 (by decide) lkX5_town_98 rfl rfl (Nat.le_of_ble_eq_true rfl) dX5_town_178 (fun H locs hP hD hS => ?_)
                      have hP : va_P G.1 vwCl [(o, .inr (5, [.int (nI 0), .int ftr, .ref aso, .ref asl, .ref ace, .int (nI M9), .int (nI B9), .ref ape, .ref aki, .ref abo, .int (nI at9_4), .int (nI M9), .int (nI B9), .ref arp, .ref ark, .ref arb, .int fb, .int fto, .int (nI 0), .ref awh, .ref awn, .ref awm, .ref awk, .ref amo, .ref amu])), (ape, aI G 25 (cpA P (rtP RP CE M9 ((60 * k) + i) M9) 25)), (aki, aI G 4 (cpA K (rtK RK CE (((60 * k) + i) + (2 + M9 * (M9 + 1))) B9) B9)), (abo, aI G 4 (cpA U (rtB RB CE (((60 * k) + i) + (2 + M9 * (M9 + 1))) B9) B9)), (aso, aI G 4 SO), (asl, aI G 4 SL), (ace, aI G 240 CE), (arp, aI G 25 (rtP RP CE M9 ((60 * k) + i) M9)), (ark, aI G 4 (rtK RK CE (((60 * k) + i) + (2 + M9 * (M9 + 1))) B9)), (arb, aI G 4 (rtB RB CE (((60 * k) + i) + (2 + M9 * (M9 + 1))) B9))] H := hP
                      have hD : va_D A [(o, .inr (5, [.int (nI 0), .int ftr, .ref aso, .ref asl, .ref ace, .int (nI M9), .int (nI B9), .ref ape, .ref aki, .ref abo, .int (nI at9_4), .int (nI M9), .int (nI B9), .ref arp, .ref ark, .ref arb, .int fb, .int fto, .int (nI 0), .ref awh, .ref awn, .ref awm, .ref awk, .ref amo, .ref amu])), (ape, aI G 25 (cpA P (rtP RP CE M9 ((60 * k) + i) M9) 25)), (aki, aI G 4 (cpA K (rtK RK CE (((60 * k) + i) + (2 + M9 * (M9 + 1))) B9) B9)), (abo, aI G 4 (cpA U (rtB RB CE (((60 * k) + i) + (2 + M9 * (M9 + 1))) B9) B9)), (aso, aI G 4 SO), (asl, aI G 4 SL), (ace, aI G 240 CE), (arp, aI G 25 (rtP RP CE M9 ((60 * k) + i) M9)), (ark, aI G 4 (rtK RK CE (((60 * k) + i) + (2 + M9 * (M9 + 1))) B9)), (arb, aI G 4 (rtB RB CE (((60 * k) + i) + (2 + M9 * (M9 + 1))) B9))] := hD
                      refine lv_aload_n hx hb dX5_town_181 rfl (lv_at hl 3 rfl) ?_
                      refine g_get (v := .int (nI B9)) hx hb hts ixX5_town_X5 hown hK hP 0 rfl rfl 6 (by decide) lkX5_town_68 rfl dX5_town_182 ?_
                      exact hret _ _ _ _ _ [(o, .inr (5, [.int (nI 0), .int ftr, .ref aso, .ref asl, .ref ace, .int (nI M9), .int (nI B9), .ref ape, .ref aki, .ref abo, .int (nI at9_4), .int (nI M9), .int (nI B9), .ref arp, .ref ark, .ref arb, .int fb, .int fto, .int (nI 0), .ref awh, .ref awn, .ref awm, .ref awk, .ref amo, .ref amu])), (ape, aI G 25 (cpA P (rtP RP CE M9 ((60 * k) + i) M9) 25)), (aki, aI G 4 (cpA K (rtK RK CE (((60 * k) + i) + (2 + M9 * (M9 + 1))) B9) B9)), (abo, aI G 4 (cpA U (rtB RB CE (((60 * k) + i) + (2 + M9 * (M9 + 1))) B9) B9)), (aso, aI G 4 SO), (asl, aI G 4 SL), (ace, aI G 240 CE), (arp, aI G 25 (rtP RP CE M9 ((60 * k) + i) M9)), (ark, aI G 4 (rtK RK CE (((60 * k) + i) + (2 + M9 * (M9 + 1))) B9)), (arb, aI G 4 (rtB RB CE (((60 * k) + i) + (2 + M9 * (M9 + 1))) B9))] ⟨nI at9_4, (congrArg (fun z => some (Value.int z)) (rfl)), rfl⟩ rfl hP hS dX5_town_185
                    ·
                      refine lv_aload_n hx hb dX5_town_142 rfl (lv_at hl 3 rfl) ?_
                      refine g_get (v := .ref aki) hx hb hts ixX5_town_X5 hown hK hP 0 rfl rfl 8 (by decide) lkX5_town_22 rfl dX5_town_143 ?_
                      refine lv_iload hx hb dX5_town_146 (lv_at hl 0 rfl) ?_
                      refine lv_aload_n hx hb dX5_town_148 rfl (lv_at hl 3 rfl) ?_
                      refine g_get (v := .ref ark) hx hb hts ixX5_town_X5 hown hK hP 0 rfl rfl 14 (by decide) lkX5_town_31 rfl dX5_town_149 ?_
                      refine lv_iload hx hb dX5_town_152 (lv_at hl 0 rfl) ?_
                      refine n_ald hx hb hK hP 8 rfl (k := q1) (by omega) (by decide) dX5_town_154 ?_
                      refine n_ast hx hb hK hP hD hS 2 rfl (k := q1) (by omega) (by decide) dX5_town_155 (fun H locs hP hD hS => ?_)
                      have hP : va_P G.1 vwCl [(o, .inr (5, [.int (nI 0), .int ftr, .ref aso, .ref asl, .ref ace, .int (nI M9), .int (nI B9), .ref ape, .ref aki, .ref abo, .int (nI at9_4), .int (nI M9), .int (nI B9), .ref arp, .ref ark, .ref arb, .int fb, .int fto, .int (nI R), .ref awh, .ref awn, .ref awm, .ref awk, .ref amo, .ref amu])), (ape, aI G 25 (cpA P (rtP RP CE M9 ((60 * k) + i) M9) 25)), (aki, aI G 4 (upd (cpA K (rtK RK CE (((60 * k) + i) + (2 + M9 * (M9 + 1))) B9) q1) q1 ((rtK RK CE (((60 * k) + i) + (2 + M9 * (M9 + 1))) B9) q1))), (abo, aI G 4 (cpA U (rtB RB CE (((60 * k) + i) + (2 + M9 * (M9 + 1))) B9) q1)), (aso, aI G 4 SO), (asl, aI G 4 SL), (ace, aI G 240 CE), (arp, aI G 25 (rtP RP CE M9 ((60 * k) + i) M9)), (ark, aI G 4 (rtK RK CE (((60 * k) + i) + (2 + M9 * (M9 + 1))) B9)), (arb, aI G 4 (rtB RB CE (((60 * k) + i) + (2 + M9 * (M9 + 1))) B9))] H := hP
                      have hD : va_D A [(o, .inr (5, [.int (nI 0), .int ftr, .ref aso, .ref asl, .ref ace, .int (nI M9), .int (nI B9), .ref ape, .ref aki, .ref abo, .int (nI at9_4), .int (nI M9), .int (nI B9), .ref arp, .ref ark, .ref arb, .int fb, .int fto, .int (nI R), .ref awh, .ref awn, .ref awm, .ref awk, .ref amo, .ref amu])), (ape, aI G 25 (cpA P (rtP RP CE M9 ((60 * k) + i) M9) 25)), (aki, aI G 4 (upd (cpA K (rtK RK CE (((60 * k) + i) + (2 + M9 * (M9 + 1))) B9) q1) q1 ((rtK RK CE (((60 * k) + i) + (2 + M9 * (M9 + 1))) B9) q1))), (abo, aI G 4 (cpA U (rtB RB CE (((60 * k) + i) + (2 + M9 * (M9 + 1))) B9) q1)), (aso, aI G 4 SO), (asl, aI G 4 SL), (ace, aI G 240 CE), (arp, aI G 25 (rtP RP CE M9 ((60 * k) + i) M9)), (ark, aI G 4 (rtK RK CE (((60 * k) + i) + (2 + M9 * (M9 + 1))) B9)), (arb, aI G 4 (rtB RB CE (((60 * k) + i) + (2 + M9 * (M9 + 1))) B9))] := hD
                      refine lv_aload_n hx hb dX5_town_156 rfl (lv_at hl 3 rfl) ?_
                      refine g_get (v := .ref abo) hx hb hts ixX5_town_X5 hown hK hP 0 rfl rfl 9 (by decide) lkX5_town_25 rfl dX5_town_157 ?_
                      refine lv_iload hx hb dX5_town_160 (lv_at hl 0 rfl) ?_
                      refine lv_aload_n hx hb dX5_town_162 rfl (lv_at hl 3 rfl) ?_
                      refine g_get (v := .ref arb) hx hb hts ixX5_town_X5 hown hK hP 0 rfl rfl 15 (by decide) lkX5_town_34 rfl dX5_town_163 ?_
                      refine lv_iload hx hb dX5_town_166 (lv_at hl 0 rfl) ?_
                      refine n_ald hx hb hK hP 9 rfl (k := q1) (by omega) (by decide) dX5_town_168 ?_
                      refine n_ast hx hb hK hP hD hS 3 rfl (k := q1) (by omega) (by decide) dX5_town_169 (fun H locs hP hD hS => ?_)
                      have hP : va_P G.1 vwCl [(o, .inr (5, [.int (nI 0), .int ftr, .ref aso, .ref asl, .ref ace, .int (nI M9), .int (nI B9), .ref ape, .ref aki, .ref abo, .int (nI at9_4), .int (nI M9), .int (nI B9), .ref arp, .ref ark, .ref arb, .int fb, .int fto, .int (nI R), .ref awh, .ref awn, .ref awm, .ref awk, .ref amo, .ref amu])), (ape, aI G 25 (cpA P (rtP RP CE M9 ((60 * k) + i) M9) 25)), (aki, aI G 4 (upd (cpA K (rtK RK CE (((60 * k) + i) + (2 + M9 * (M9 + 1))) B9) q1) q1 ((rtK RK CE (((60 * k) + i) + (2 + M9 * (M9 + 1))) B9) q1))), (abo, aI G 4 (upd (cpA U (rtB RB CE (((60 * k) + i) + (2 + M9 * (M9 + 1))) B9) q1) q1 ((rtB RB CE (((60 * k) + i) + (2 + M9 * (M9 + 1))) B9) q1))), (aso, aI G 4 SO), (asl, aI G 4 SL), (ace, aI G 240 CE), (arp, aI G 25 (rtP RP CE M9 ((60 * k) + i) M9)), (ark, aI G 4 (rtK RK CE (((60 * k) + i) + (2 + M9 * (M9 + 1))) B9)), (arb, aI G 4 (rtB RB CE (((60 * k) + i) + (2 + M9 * (M9 + 1))) B9))] H := hP
                      have hD : va_D A [(o, .inr (5, [.int (nI 0), .int ftr, .ref aso, .ref asl, .ref ace, .int (nI M9), .int (nI B9), .ref ape, .ref aki, .ref abo, .int (nI at9_4), .int (nI M9), .int (nI B9), .ref arp, .ref ark, .ref arb, .int fb, .int fto, .int (nI R), .ref awh, .ref awn, .ref awm, .ref awk, .ref amo, .ref amu])), (ape, aI G 25 (cpA P (rtP RP CE M9 ((60 * k) + i) M9) 25)), (aki, aI G 4 (upd (cpA K (rtK RK CE (((60 * k) + i) + (2 + M9 * (M9 + 1))) B9) q1) q1 ((rtK RK CE (((60 * k) + i) + (2 + M9 * (M9 + 1))) B9) q1))), (abo, aI G 4 (upd (cpA U (rtB RB CE (((60 * k) + i) + (2 + M9 * (M9 + 1))) B9) q1) q1 ((rtB RB CE (((60 * k) + i) + (2 + M9 * (M9 + 1))) B9) q1))), (aso, aI G 4 SO), (asl, aI G 4 SL), (ace, aI G 240 CE), (arp, aI G 25 (rtP RP CE M9 ((60 * k) + i) M9)), (ark, aI G 4 (rtK RK CE (((60 * k) + i) + (2 + M9 * (M9 + 1))) B9)), (arb, aI G 4 (rtB RB CE (((60 * k) + i) + (2 + M9 * (M9 + 1))) B9))] := hD
                      refine lv_iinc (v := nI (q1 + 1)) (lv' := [(7, .int (nI (q1 + 1))), (6, .int (nI ((60 * k) + i))), (5, .int (ft (-9) (SO k) L lane (nI i) (nI n))), (0, .ref o), (1, .int (nI k)), (2, .int lane), (3, .int (nI i)), (4, .int (nI n))]) hx hb dX5_town_170 hl (k := 0) rfl (show nI q1 + Int32.ofInt 1 = nI (q1 + 1) from nI_add _ 1) (by decide) rfl (fun ls hl => ?_)
                      refine lv_goto (tgt := 133) hx hb dX5_town_173 (by decide) ?_
                      have hP8 : va_P G.1 vwCl [(o, .inr (5, [.int (nI 0), .int ftr, .ref aso, .ref asl, .ref ace, .int (nI M9), .int (nI B9), .ref ape, .ref aki, .ref abo, .int (nI at9_4), .int (nI M9), .int (nI B9), .ref arp, .ref ark, .ref arb, .int fb, .int fto, .int (nI R), .ref awh, .ref awn, .ref awm, .ref awk, .ref amo, .ref amu])), (ape, aI G 25 (cpA P (rtP RP CE M9 ((60 * k) + i) M9) 25)), (aki, aI G 4 (cpA K (rtK RK CE (((60 * k) + i) + (2 + M9 * (M9 + 1))) B9) (q1 + 1))), (abo, aI G 4 (cpA U (rtB RB CE (((60 * k) + i) + (2 + M9 * (M9 + 1))) B9) (q1 + 1))), (aso, aI G 4 SO), (asl, aI G 4 SL), (ace, aI G 240 CE), (arp, aI G 25 (rtP RP CE M9 ((60 * k) + i) M9)), (ark, aI G 4 (rtK RK CE (((60 * k) + i) + (2 + M9 * (M9 + 1))) B9)), (arb, aI G 4 (rtB RB CE (((60 * k) + i) + (2 + M9 * (M9 + 1))) B9))] H := by
                        rw [show (cpA K (rtK RK CE (((60 * k) + i) + (2 + M9 * (M9 + 1))) B9) (q1 + 1)) = (upd (cpA K (rtK RK CE (((60 * k) + i) + (2 + M9 * (M9 + 1))) B9) q1) q1 ((rtK RK CE (((60 * k) + i) + (2 + M9 * (M9 + 1))) B9) q1)) from rfl]
                        rw [show (cpA U (rtB RB CE (((60 * k) + i) + (2 + M9 * (M9 + 1))) B9) (q1 + 1)) = (upd (cpA U (rtB RB CE (((60 * k) + i) + (2 + M9 * (M9 + 1))) B9) q1) q1 ((rtB RB CE (((60 * k) + i) + (2 + M9 * (M9 + 1))) B9) q1)) from rfl]
                        exact hP
                      have hD8 : va_D A [(o, .inr (5, [.int (nI 0), .int ftr, .ref aso, .ref asl, .ref ace, .int (nI M9), .int (nI B9), .ref ape, .ref aki, .ref abo, .int (nI at9_4), .int (nI M9), .int (nI B9), .ref arp, .ref ark, .ref arb, .int fb, .int fto, .int (nI R), .ref awh, .ref awn, .ref awm, .ref awk, .ref amo, .ref amu])), (ape, aI G 25 (cpA P (rtP RP CE M9 ((60 * k) + i) M9) 25)), (aki, aI G 4 (cpA K (rtK RK CE (((60 * k) + i) + (2 + M9 * (M9 + 1))) B9) (q1 + 1))), (abo, aI G 4 (cpA U (rtB RB CE (((60 * k) + i) + (2 + M9 * (M9 + 1))) B9) (q1 + 1))), (aso, aI G 4 SO), (asl, aI G 4 SL), (ace, aI G 240 CE), (arp, aI G 25 (rtP RP CE M9 ((60 * k) + i) M9)), (ark, aI G 4 (rtK RK CE (((60 * k) + i) + (2 + M9 * (M9 + 1))) B9)), (arb, aI G 4 (rtB RB CE (((60 * k) + i) + (2 + M9 * (M9 + 1))) B9))] := by
                        rw [show (cpA K (rtK RK CE (((60 * k) + i) + (2 + M9 * (M9 + 1))) B9) (q1 + 1)) = (upd (cpA K (rtK RK CE (((60 * k) + i) + (2 + M9 * (M9 + 1))) B9) q1) q1 ((rtK RK CE (((60 * k) + i) + (2 + M9 * (M9 + 1))) B9) q1)) from rfl]
                        rw [show (cpA U (rtB RB CE (((60 * k) + i) + (2 + M9 * (M9 + 1))) B9) (q1 + 1)) = (upd (cpA U (rtB RB CE (((60 * k) + i) + (2 + M9 * (M9 + 1))) B9) q1) q1 ((rtB RB CE (((60 * k) + i) + (2 + M9 * (M9 + 1))) B9) q1)) from rfl]
                        exact hD
                      exact ih2 (q1 + 1) H locs ls (by omega) (by omega) hP8 hD8 hS (lv_sub hl [0, 1, 2, 3, 4, 5, 6, 7] rfl)
                have hP9 : va_P G.1 vwCl [(o, .inr (5, [.int (nI 0), .int ftr, .ref aso, .ref asl, .ref ace, .int (nI M9), .int (nI B9), .ref ape, .ref aki, .ref abo, .int (nI at9_4), .int (nI M9), .int (nI B9), .ref arp, .ref ark, .ref arb, .int fb, .int fto, .int (nI R), .ref awh, .ref awn, .ref awm, .ref awk, .ref amo, .ref amu])), (ape, aI G 25 (cpA P (rtP RP CE M9 ((60 * k) + i) M9) 25)), (aki, aI G 4 (cpA K (rtK RK CE (((60 * k) + i) + (2 + M9 * (M9 + 1))) B9) 0)), (abo, aI G 4 (cpA U (rtB RB CE (((60 * k) + i) + (2 + M9 * (M9 + 1))) B9) 0)), (aso, aI G 4 SO), (asl, aI G 4 SL), (ace, aI G 240 CE), (arp, aI G 25 (rtP RP CE M9 ((60 * k) + i) M9)), (ark, aI G 4 (rtK RK CE (((60 * k) + i) + (2 + M9 * (M9 + 1))) B9)), (arb, aI G 4 (rtB RB CE (((60 * k) + i) + (2 + M9 * (M9 + 1))) B9))] H := by
                  rw [show (cpA K (rtK RK CE (((60 * k) + i) + (2 + M9 * (M9 + 1))) B9) 0) = (K) from rfl]
                  rw [show (cpA U (rtB RB CE (((60 * k) + i) + (2 + M9 * (M9 + 1))) B9) 0) = (U) from rfl]
                  exact hP
                have hD9 : va_D A [(o, .inr (5, [.int (nI 0), .int ftr, .ref aso, .ref asl, .ref ace, .int (nI M9), .int (nI B9), .ref ape, .ref aki, .ref abo, .int (nI at9_4), .int (nI M9), .int (nI B9), .ref arp, .ref ark, .ref arb, .int fb, .int fto, .int (nI R), .ref awh, .ref awn, .ref awm, .ref awk, .ref amo, .ref amu])), (ape, aI G 25 (cpA P (rtP RP CE M9 ((60 * k) + i) M9) 25)), (aki, aI G 4 (cpA K (rtK RK CE (((60 * k) + i) + (2 + M9 * (M9 + 1))) B9) 0)), (abo, aI G 4 (cpA U (rtB RB CE (((60 * k) + i) + (2 + M9 * (M9 + 1))) B9) 0)), (aso, aI G 4 SO), (asl, aI G 4 SL), (ace, aI G 240 CE), (arp, aI G 25 (rtP RP CE M9 ((60 * k) + i) M9)), (ark, aI G 4 (rtK RK CE (((60 * k) + i) + (2 + M9 * (M9 + 1))) B9)), (arb, aI G 4 (rtB RB CE (((60 * k) + i) + (2 + M9 * (M9 + 1))) B9))] := by
                  rw [show (cpA K (rtK RK CE (((60 * k) + i) + (2 + M9 * (M9 + 1))) B9) 0) = (K) from rfl]
                  rw [show (cpA U (rtB RB CE (((60 * k) + i) + (2 + M9 * (M9 + 1))) B9) 0) = (U) from rfl]
                  exact hD
                exact loop2 (B9 + 1) 0 H locs ls (by omega) (by omega) hP9 hD9 hS (lv_sub hl [0, 1, 2, 3, 4, 5, 6, 7] rfl)
              ·
                refine lv_aload_n hx hb dX5_town_110 rfl (lv_at hl 3 rfl) ?_
                refine g_get (v := .ref ape) hx hb hts ixX5_town_X5 hown hK hP 0 rfl rfl 7 (by decide) lkX5_town_19 rfl dX5_town_111 ?_
                refine lv_iload hx hb dX5_town_114 (lv_at hl 0 rfl) ?_
                refine lv_aload_n hx hb dX5_town_116 rfl (lv_at hl 3 rfl) ?_
                refine g_get (v := .ref arp) hx hb hts ixX5_town_X5 hown hK hP 0 rfl rfl 13 (by decide) lkX5_town_28 rfl dX5_town_117 ?_
                refine lv_iload hx hb dX5_town_120 (lv_at hl 0 rfl) ?_
                refine n_ald hx hb hK hP 7 rfl (k := q0) (by omega) (by decide) dX5_town_122 ?_
                refine n_ast hx hb hK hP hD hS 1 rfl (k := q0) (by omega) (by decide) dX5_town_123 (fun H locs hP hD hS => ?_)
                have hP : va_P G.1 vwCl [(o, .inr (5, [.int (nI 0), .int ftr, .ref aso, .ref asl, .ref ace, .int (nI M9), .int (nI B9), .ref ape, .ref aki, .ref abo, .int (nI at9_4), .int (nI M9), .int (nI B9), .ref arp, .ref ark, .ref arb, .int fb, .int fto, .int (nI R), .ref awh, .ref awn, .ref awm, .ref awk, .ref amo, .ref amu])), (ape, aI G 25 (upd (cpA P (rtP RP CE M9 ((60 * k) + i) M9) q0) q0 ((rtP RP CE M9 ((60 * k) + i) M9) q0))), (aki, aI G 4 K), (abo, aI G 4 U), (aso, aI G 4 SO), (asl, aI G 4 SL), (ace, aI G 240 CE), (arp, aI G 25 (rtP RP CE M9 ((60 * k) + i) M9)), (ark, aI G 4 (rtK RK CE (((60 * k) + i) + (2 + M9 * (M9 + 1))) B9)), (arb, aI G 4 (rtB RB CE (((60 * k) + i) + (2 + M9 * (M9 + 1))) B9))] H := hP
                have hD : va_D A [(o, .inr (5, [.int (nI 0), .int ftr, .ref aso, .ref asl, .ref ace, .int (nI M9), .int (nI B9), .ref ape, .ref aki, .ref abo, .int (nI at9_4), .int (nI M9), .int (nI B9), .ref arp, .ref ark, .ref arb, .int fb, .int fto, .int (nI R), .ref awh, .ref awn, .ref awm, .ref awk, .ref amo, .ref amu])), (ape, aI G 25 (upd (cpA P (rtP RP CE M9 ((60 * k) + i) M9) q0) q0 ((rtP RP CE M9 ((60 * k) + i) M9) q0))), (aki, aI G 4 K), (abo, aI G 4 U), (aso, aI G 4 SO), (asl, aI G 4 SL), (ace, aI G 240 CE), (arp, aI G 25 (rtP RP CE M9 ((60 * k) + i) M9)), (ark, aI G 4 (rtK RK CE (((60 * k) + i) + (2 + M9 * (M9 + 1))) B9)), (arb, aI G 4 (rtB RB CE (((60 * k) + i) + (2 + M9 * (M9 + 1))) B9))] := hD
                refine lv_iinc (v := nI (q0 + 1)) (lv' := [(7, .int (nI (q0 + 1))), (6, .int (nI ((60 * k) + i))), (5, .int (ft (-9) (SO k) L lane (nI i) (nI n))), (0, .ref o), (1, .int (nI k)), (2, .int lane), (3, .int (nI i)), (4, .int (nI n))]) hx hb dX5_town_124 hl (k := 0) rfl (show nI q0 + Int32.ofInt 1 = nI (q0 + 1) from nI_add _ 1) (by decide) rfl (fun ls hl => ?_)
                refine lv_goto (tgt := 103) hx hb dX5_town_127 (by decide) ?_
                have hP10 : va_P G.1 vwCl [(o, .inr (5, [.int (nI 0), .int ftr, .ref aso, .ref asl, .ref ace, .int (nI M9), .int (nI B9), .ref ape, .ref aki, .ref abo, .int (nI at9_4), .int (nI M9), .int (nI B9), .ref arp, .ref ark, .ref arb, .int fb, .int fto, .int (nI R), .ref awh, .ref awn, .ref awm, .ref awk, .ref amo, .ref amu])), (ape, aI G 25 (cpA P (rtP RP CE M9 ((60 * k) + i) M9) (q0 + 1))), (aki, aI G 4 K), (abo, aI G 4 U), (aso, aI G 4 SO), (asl, aI G 4 SL), (ace, aI G 240 CE), (arp, aI G 25 (rtP RP CE M9 ((60 * k) + i) M9)), (ark, aI G 4 (rtK RK CE (((60 * k) + i) + (2 + M9 * (M9 + 1))) B9)), (arb, aI G 4 (rtB RB CE (((60 * k) + i) + (2 + M9 * (M9 + 1))) B9))] H := by
                  rw [show (cpA P (rtP RP CE M9 ((60 * k) + i) M9) (q0 + 1)) = (upd (cpA P (rtP RP CE M9 ((60 * k) + i) M9) q0) q0 ((rtP RP CE M9 ((60 * k) + i) M9) q0)) from rfl]
                  exact hP
                have hD10 : va_D A [(o, .inr (5, [.int (nI 0), .int ftr, .ref aso, .ref asl, .ref ace, .int (nI M9), .int (nI B9), .ref ape, .ref aki, .ref abo, .int (nI at9_4), .int (nI M9), .int (nI B9), .ref arp, .ref ark, .ref arb, .int fb, .int fto, .int (nI R), .ref awh, .ref awn, .ref awm, .ref awk, .ref amo, .ref amu])), (ape, aI G 25 (cpA P (rtP RP CE M9 ((60 * k) + i) M9) (q0 + 1))), (aki, aI G 4 K), (abo, aI G 4 U), (aso, aI G 4 SO), (asl, aI G 4 SL), (ace, aI G 240 CE), (arp, aI G 25 (rtP RP CE M9 ((60 * k) + i) M9)), (ark, aI G 4 (rtK RK CE (((60 * k) + i) + (2 + M9 * (M9 + 1))) B9)), (arb, aI G 4 (rtB RB CE (((60 * k) + i) + (2 + M9 * (M9 + 1))) B9))] := by
                  rw [show (cpA P (rtP RP CE M9 ((60 * k) + i) M9) (q0 + 1)) = (upd (cpA P (rtP RP CE M9 ((60 * k) + i) M9) q0) q0 ((rtP RP CE M9 ((60 * k) + i) M9) q0)) from rfl]
                  exact hD
                exact ih1 (q0 + 1) H locs ls (by omega) (by omega) hP10 hD10 hS (lv_sub hl [0, 1, 2, 3, 4, 5, 6, 7] rfl)
          have hP11 : va_P G.1 vwCl [(o, .inr (5, [.int (nI 0), .int ftr, .ref aso, .ref asl, .ref ace, .int (nI M9), .int (nI B9), .ref ape, .ref aki, .ref abo, .int (nI at9_4), .int (nI M9), .int (nI B9), .ref arp, .ref ark, .ref arb, .int fb, .int fto, .int (nI R), .ref awh, .ref awn, .ref awm, .ref awk, .ref amo, .ref amu])), (ape, aI G 25 (cpA P (rtP RP CE M9 ((60 * k) + i) M9) 0)), (aki, aI G 4 K), (abo, aI G 4 U), (aso, aI G 4 SO), (asl, aI G 4 SL), (ace, aI G 240 CE), (arp, aI G 25 (rtP RP CE M9 ((60 * k) + i) M9)), (ark, aI G 4 (rtK RK CE (((60 * k) + i) + (2 + M9 * (M9 + 1))) B9)), (arb, aI G 4 (rtB RB CE (((60 * k) + i) + (2 + M9 * (M9 + 1))) B9))] H := by
            rw [show (cpA P (rtP RP CE M9 ((60 * k) + i) M9) 0) = (P) from rfl]
            exact hP
          have hD11 : va_D A [(o, .inr (5, [.int (nI 0), .int ftr, .ref aso, .ref asl, .ref ace, .int (nI M9), .int (nI B9), .ref ape, .ref aki, .ref abo, .int (nI at9_4), .int (nI M9), .int (nI B9), .ref arp, .ref ark, .ref arb, .int fb, .int fto, .int (nI R), .ref awh, .ref awn, .ref awm, .ref awk, .ref amo, .ref amu])), (ape, aI G 25 (cpA P (rtP RP CE M9 ((60 * k) + i) M9) 0)), (aki, aI G 4 K), (abo, aI G 4 U), (aso, aI G 4 SO), (asl, aI G 4 SL), (ace, aI G 240 CE), (arp, aI G 25 (rtP RP CE M9 ((60 * k) + i) M9)), (ark, aI G 4 (rtK RK CE (((60 * k) + i) + (2 + M9 * (M9 + 1))) B9)), (arb, aI G 4 (rtB RB CE (((60 * k) + i) + (2 + M9 * (M9 + 1))) B9))] := by
            rw [show (cpA P (rtP RP CE M9 ((60 * k) + i) M9) 0) = (P) from rfl]
            exact hD
          exact loop1 (25 + 1) 0 H locs ls (by omega) (by omega) hP11 hD11 hS (lv_sub hl [0, 1, 2, 3, 4, 5, 6, 7] rfl)
        ·
          exact absurd hok c5
      ·
        exact absurd hft c3
    ·
      exact absurd hln c2
  ·
    exact absurd (vp_in_nI hk4 (by omega)) c1
