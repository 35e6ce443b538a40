theorem ixX5_fails_X5 : ∀ w ∈ wsX50, w ∈ wsX5_fails := fun _ h => List.mem_cons_of_mem _ (List.mem_append_right _ h)
theorem lkX5_fails_55 : Cond.fieldLink RX5 55 (TX5 0).1 (TX5 0).2.1 (TX5 0).2.2.1 ∈ wsX5_fails := List.mem_of_getElem? (i := 1) rfl
set_option maxHeartbeats 4000000 in
set_option maxRecDepth 100000 in
theorem kX5_fails (l : Launch) (G : Gl) (o : Nat) (ff : Int32) (ftr : Int32) (aso : Nat) (asl : Nat) (ace : Nat) (M : Nat) (B : Nat) (ape : Nat) (aki : Nat) (abo : Nat) (at_ : Int32) (rM : Int32) (rB : Int32) (arp : Nat) (ark : Nat) (arb : Nat) (fb : Int32) (fto : Int32) (R : Nat) (awh : Nat) (awn : Nat) (awm : Nat) (awk : Nat) (amo : Nat) (amu : Nat) (q : Int32) : Wt l G yX5_fails wsX5_fails ({ frames := 0, cells := 0, slots := 0, locals := 0 } : Room) [.ref o, .int q] [(o, .inr (5, [.int ff, .int ftr, .ref aso, .ref asl, .ref ace, .int (nI M), .int (nI B), .ref ape, .ref aki, .ref abo, .int at_, .int rM, .int rB, .ref arp, .ref ark, .ref arb, .int fb, .int fto, .int (nI R), .ref awh, .ref awn, .ref awm, .ref awk, .ref amo, .ref amu]))] [(o, .inr (5, [.int q, .int ftr, .ref aso, .ref asl, .ref ace, .int (nI M), .int (nI B), .ref ape, .ref aki, .ref abo, .int at_, .int rM, .int rB, .ref arp, .ref ark, .ref arb, .int fb, .int fto, .int (nI R), .ref awh, .ref awn, .ref awm, .ref awk, .ref amo, .ref amu]))] (some (.int ((-10) - q))) := by
  refine Wt.ofI (cc := cX5_fails) (maxL := 2) (by decide) rfl (Nat.le_of_ble_eq_true rfl) ?_
  intro p e s m below meth c Q A ls hE hP hK hD hS hl hret
  obtain ⟨hx, hb, hml, hown, hts⟩ := id hE
  have hl : lv_has ls 2 [(0, .ref o), (1, .int q)] := hl
  refine lv_aload_n hx hb dX5_fails_0 rfl (lv_at hl 0 rfl) ?_
  refine lv_iload_n hx hb dX5_fails_1 rfl (lv_at hl 1 rfl) ?_
  refine g_put (v := q) hx hb hts ixX5_fails_X5 tyX5 tyX5_ok nmX5 hown hK hP hD hS 0 rfl rfl 0 (by decide) lkX5_fails_55 rfl rfl (Nat.le_of_ble_eq_true rfl) dX5_fails_2 (fun H locs hP hD hS => ?_)
  have hP : va_P G.1 vwCl [(o, .inr (5, [.int q, .int ftr, .ref aso, .ref asl, .ref ace, .int (nI M), .int (nI B), .ref ape, .ref aki, .ref abo, .int at_, .int rM, .int rB, .ref arp, .ref ark, .ref arb, .int fb, .int fto, .int (nI R), .ref awh, .ref awn, .ref awm, .ref awk, .ref amo, .ref amu]))] H := hP
  have hD : va_D A [(o, .inr (5, [.int q, .int ftr, .ref aso, .ref asl, .ref ace, .int (nI M), .int (nI B), .ref ape, .ref aki, .ref abo, .int at_, .int rM, .int rB, .ref arp, .ref ark, .ref arb, .int fb, .int fto, .int (nI R), .ref awh, .ref awn, .ref awm, .ref awk, .ref amo, .ref amu]))] := hD
  refine lv_bipush (v := (-10)) hx hb dX5_fails_5 (by decide) ?_
  refine lv_iload_n hx hb dX5_fails_7 rfl (lv_at hl 1 rfl) ?_
  refine lv_isub hx hb dX5_fails_8 ?_
  exact hret _ _ _ _ _ (by first | with_reducible rfl | (simp only []; done) | contradiction) (hP) hS dX5_fails_9

theorem ixX5_lost_X5 : ∀ w ∈ wsX50, w ∈ wsX5_lost := fun _ h => List.mem_cons_of_mem _ (List.mem_append_right _ h)
theorem lkX5_lost_55 : Cond.fieldLink RX5 55 (TX5 0).1 (TX5 0).2.1 (TX5 0).2.2.1 ∈ wsX5_lost := List.mem_of_getElem? (i := 1) rfl
set_option maxHeartbeats 4000000 in
set_option maxRecDepth 100000 in
theorem kX5_lost (l : Launch) (G : Gl) (o : Nat) (ff : Int32) (ftr : Int32) (aso : Nat) (asl : Nat) (ace : Nat) (M : Nat) (B : Nat) (ape : Nat) (aki : Nat) (abo : Nat) (at_ : Int32) (rM : Int32) (rB : Int32) (arp : Nat) (ark : Nat) (arb : Nat) (fb : Int32) (fto : Int32) (R : Nat) (awh : Nat) (awn : Nat) (awm : Nat) (awk : Nat) (amo : Nat) (amu : Nat) (q : Int32) : Wt l G yX5_lost wsX5_lost ({ frames := 0, cells := 0, slots := 0, locals := 0 } : Room) [.ref o, .int q] [(o, .inr (5, [.int ff, .int ftr, .ref aso, .ref asl, .ref ace, .int (nI M), .int (nI B), .ref ape, .ref aki, .ref abo, .int at_, .int rM, .int rB, .ref arp, .ref ark, .ref arb, .int fb, .int fto, .int (nI R), .ref awh, .ref awn, .ref awm, .ref awk, .ref amo, .ref amu]))] [(o, .inr (5, [.int q, .int ftr, .ref aso, .ref asl, .ref ace, .int (nI M), .int (nI B), .ref ape, .ref aki, .ref abo, .int at_, .int rM, .int rB, .ref arp, .ref ark, .ref arb, .int fb, .int fto, .int (nI R), .ref awh, .ref awn, .ref awm, .ref awk, .ref amo, .ref amu]))] (some (.long (-9223372036854775808))) := by
  refine Wt.ofL (cc := cX5_lost) (maxL := 2) (by decide) rfl (Nat.le_of_ble_eq_true rfl) ?_
  intro p e s m below meth c Q A ls hE hP hK hD hS hl hret
  obtain ⟨hx, hb, hml, hown, hts⟩ := id hE
  have hl : lv_has ls 2 [(0, .ref o), (1, .int q)] := hl
  refine lv_aload_n hx hb dX5_lost_0 rfl (lv_at hl 0 rfl) ?_
  refine lv_iload_n hx hb dX5_lost_1 rfl (lv_at hl 1 rfl) ?_
  refine g_put (v := q) hx hb hts ixX5_lost_X5 tyX5 tyX5_ok nmX5 hown hK hP hD hS 0 rfl rfl 0 (by decide) lkX5_lost_55 rfl rfl (Nat.le_of_ble_eq_true rfl) dX5_lost_2 (fun H locs hP hD hS => ?_)
  have hP : va_P G.1 vwCl [(o, .inr (5, [.int q, .int ftr, .ref aso, .ref asl, .ref ace, .int (nI M), .int (nI B), .ref ape, .ref aki, .ref abo, .int at_, .int rM, .int rB, .ref arp, .ref ark, .ref arb, .int fb, .int fto, .int (nI R), .ref awh, .ref awn, .ref awm, .ref awk, .ref amo, .ref amu]))] H := hP
  have hD : va_D A [(o, .inr (5, [.int q, .int ftr, .ref aso, .ref asl, .ref ace, .int (nI M), .int (nI B), .ref ape, .ref aki, .ref abo, .int at_, .int rM, .int rB, .ref arp, .ref ark, .ref arb, .int fb, .int fto, .int (nI R), .ref awh, .ref awn, .ref awm, .ref awk, .ref amo, .ref amu]))] := hD
  refine lv_ldc2 (v := (-9223372036854775808)) hx hb hown (hts (.constantLong RX5 59 (-9223372036854775808)) (List.mem_of_getElem? (i := 2) rfl)) dX5_lost_5 ?_
  exact hret _ _ _ _ _ (by first | with_reducible rfl | (simp only []; done) | contradiction) (hP) hS dX5_lost_8

set_option maxHeartbeats 4000000 in
set_option maxRecDepth 100000 in
theorem kX5_within0 (l : Launch) (G : Gl) (q : Int32) (n : Nat) (hn : n < 2 ^ 30) : Rd l G yX5_within wsX5_within ({ frames := 0, cells := 0, slots := 0, locals := 0 } : Room) [.int q, .int (nI 0), .int (nI n)] [] (some (.int (bI (vp_in q (n + 1))))) := by
  refine Rd.ofZ (cc := cX5_within) (maxL := 3) (by decide) rfl (Nat.le_of_ble_eq_true rfl) ?_
  intro p e s m below meth c Q ls hE hP hK hl hret
  obtain ⟨hx, hb, hml, hown, hts⟩ := id hE
  have hl : lv_has ls 3 [(0, .int q), (1, .int (nI 0)), (2, .int (nI n))] := hl
  refine lv_iload_n hx hb dX5_within_0 rfl (lv_at hl 0 rfl) ?_
  refine lv_iload_n hx hb dX5_within_1 rfl (lv_at hl 1 rfl) ?_
  refine lv_icmp_lt (tgt := 14) hx hb dX5_within_2 (by decide) (fun c1 => ?_) (fun c1 => ?_)
  ·
    refine lv_iconst (v := nI 0) hx hb dX5_within_14 (by decide) ?_
    exact hret _ _ _ ((bI_f (vin_f1 c1)).symm) dX5_within_15
  ·
    refine lv_iload_n hx hb dX5_within_5 rfl (lv_at hl 0 rfl) ?_
    refine lv_iload_n hx hb dX5_within_6 rfl (lv_at hl 2 rfl) ?_
    refine lv_icmp_gt (tgt := 14) hx hb dX5_within_7 (by decide) (fun c2 => ?_) (fun c2 => ?_)
    ·
      refine lv_iconst (v := nI 0) hx hb dX5_within_14 (by decide) ?_
      exact hret _ _ _ ((bI_f (vin_f3 (i32_lt c2) (by omega))).symm) dX5_within_15
    ·
      refine lv_iconst (v := nI 1) hx hb dX5_within_10 (by decide) ?_
      refine lv_goto (tgt := 15) hx hb dX5_within_11 (by decide) ?_
      exact hret _ _ _ ((bI_t (vin_t1 c1 (i32_nlt c2) (by omega))).symm) dX5_within_15

set_option maxHeartbeats 4000000 in
set_option maxRecDepth 100000 in
theorem kX5_within (l : Launch) (G : Gl) (q : Int32) (a : Int32) (b : Int32) : Rd l G yX5_within wsX5_within ({ frames := 0, cells := 0, slots := 0, locals := 0 } : Room) [.int q, .int a, .int b] [] (some (.int (bI (¬ q < a ∧ ¬ b < q)))) := by
  refine Rd.ofZ (cc := cX5_within) (maxL := 3) (by decide) rfl (Nat.le_of_ble_eq_true rfl) ?_
  intro p e s m below meth c Q ls hE hP hK hl hret
  obtain ⟨hx, hb, hml, hown, hts⟩ := id hE
  have hl : lv_has ls 3 [(0, .int q), (1, .int a), (2, .int b)] := hl
  refine lv_iload_n hx hb dX5_within_0 rfl (lv_at hl 0 rfl) ?_
  refine lv_iload_n hx hb dX5_within_1 rfl (lv_at hl 1 rfl) ?_
  refine lv_icmp_lt (tgt := 14) hx hb dX5_within_2 (by decide) (fun c1 => ?_) (fun c1 => ?_)
  ·
    refine lv_iconst (v := nI 0) hx hb dX5_within_14 (by decide) ?_
    exact hret _ _ _ ((bI_f (fun h => by obtain ⟨h0, h1⟩ := h; contradiction)).symm) dX5_within_15
  ·
    refine lv_iload_n hx hb dX5_within_5 rfl (lv_at hl 0 rfl) ?_
    refine lv_iload_n hx hb dX5_within_6 rfl (lv_at hl 2 rfl) ?_
    refine lv_icmp_gt (tgt := 14) hx hb dX5_within_7 (by decide) (fun c2 => ?_) (fun c2 => ?_)
    ·
      refine lv_iconst (v := nI 0) hx hb dX5_within_14 (by decide) ?_
      exact hret _ _ _ ((bI_f (fun h => by obtain ⟨h0, h1⟩ := h; contradiction)).symm) dX5_within_15
    ·
      refine lv_iconst (v := nI 1) hx hb dX5_within_10 (by decide) ?_
      refine lv_goto (tgt := 15) hx hb dX5_within_11 (by decide) ?_
      exact hret _ _ _ ((bI_t ⟨c1, c2⟩).symm) dX5_within_15

set_option maxHeartbeats 4000000 in
set_option maxRecDepth 100000 in
theorem kX5_isSheet (l : Launch) (G : Gl) (q : Int32) : Rd l G yX5_isSheet wsX5_isSheet ({ frames := 1, cells := 0, slots := 0, locals := 22 } : Room) [.int q] [] (some (.int (bI (vp_in q 4)))) := by
  refine Rd.ofZ (cc := cX5_isSheet) (maxL := 1) (by decide) rfl (Nat.le_of_ble_eq_true rfl) ?_
  intro p e s m below meth c Q ls hE hP hK hl hret
  obtain ⟨hx, hb, hml, hown, hts⟩ := id hE
  have hl : lv_has ls 1 [(0, .int q)] := hl
  refine lv_iload_n hx hb dX5_isSheet_0 rfl (lv_at hl 0 rfl) ?_
  refine lv_iconst (v := nI 0) hx hb dX5_isSheet_1 (by decide) ?_
  refine lv_iconst (v := nI 3) hx hb dX5_isSheet_2 (by decide) ?_
  refine rdS (As := [.int q, .int (nI 0), .int (nI 3)]) (rest := []) hE (kX5_within0 l G q 3 (by first | omega | assumption)) (va_cwS 3 hts gX5_isSheet_X5_within rfl rfl rfl (by decide +kernel) ⟨Nat.le_of_ble_eq_true rfl, Nat.le_of_ble_eq_true rfl⟩) hP hK [] rfl rfl hl.1 rfl (Nat.le_of_ble_eq_true rfl) dX5_isSheet_3 ⟨Nat.zero_le _, Nat.zero_le _⟩ ?_
  refine W.eq (g2 := F0 m 6 ls [.int (bI (vp_in q (3 + 1)))]) rfl ?_
  exact hret _ _ _ (rfl) dX5_isSheet_6

set_option maxHeartbeats 4000000 in
set_option maxRecDepth 100000 in
theorem kX5_isSort (l : Launch) (G : Gl) (q : Int32) : Rd l G yX5_isSort wsX5_isSort ({ frames := 1, cells := 0, slots := 0, locals := 22 } : Room) [.int q] [] (some (.int (bI (vp_in q (2 + 1))))) := by
  refine Rd.ofZ (cc := cX5_isSort) (maxL := 1) (by decide) rfl (Nat.le_of_ble_eq_true rfl) ?_
  intro p e s m below meth c Q ls hE hP hK hl hret
  obtain ⟨hx, hb, hml, hown, hts⟩ := id hE
  have hl : lv_has ls 1 [(0, .int q)] := hl
  refine lv_iload_n hx hb dX5_isSort_0 rfl (lv_at hl 0 rfl) ?_
  refine lv_iconst (v := nI 0) hx hb dX5_isSort_1 (by decide) ?_
  refine lv_iconst (v := nI 2) hx hb dX5_isSort_2 (by decide) ?_
  refine rdS (As := [.int q, .int (nI 0), .int (nI 2)]) (rest := []) hE (kX5_within0 l G q 2 (by first | omega | assumption)) (va_cwS 3 hts gX5_isSort_X5_within rfl rfl rfl (by decide +kernel) ⟨Nat.le_of_ble_eq_true rfl, Nat.le_of_ble_eq_true rfl⟩) hP hK [] rfl rfl hl.1 rfl (Nat.le_of_ble_eq_true rfl) dX5_isSort_3 ⟨Nat.zero_le _, Nat.zero_le _⟩ ?_
  refine W.eq (g2 := F0 m 6 ls [.int (bI (vp_in q (2 + 1)))]) rfl ?_
  exact hret _ _ _ (rfl) dX5_isSort_6

theorem ixX5_isMaster_X5 : ∀ w ∈ wsX50, w ∈ wsX5_isMaster := fun _ h => List.mem_cons_of_mem _ (List.mem_append_right _ h)
theorem lkX5_isMaster_65 : Cond.fieldLink RX5 65 (TX5 5).1 (TX5 5).2.1 (TX5 5).2.2.1 ∈ wsX5_isMaster := List.mem_of_getElem? (i := 1) rfl
set_option maxHeartbeats 4000000 in
set_option maxRecDepth 100000 in
theorem kX5_isMaster (l : Launch) (G : Gl) (o : Nat) (ff : Int32) (ftr : Int32) (aso : Nat) (asl : Nat) (ace : Nat) (M : Nat) (B : Nat) (ape : Nat) (aki : Nat) (abo : Nat) (at_ : Int32) (rM : Int32) (rB : Int32) (arp : Nat) (ark : Nat) (arb : Nat) (fb : Int32) (fto : Int32) (R : Nat) (awh : Nat) (awn : Nat) (awm : Nat) (awk : Nat) (amo : Nat) (amu : Nat) (q : Int32) (hM : M ≤ 5) : Rd l G yX5_isMaster wsX5_isMaster ({ frames := 0, cells := 0, slots := 0, locals := 0 } : Room) [.ref o, .int q] [(o, .inr (5, [.int ff, .int ftr, .ref aso, .ref asl, .ref ace, .int (nI M), .int (nI B), .ref ape, .ref aki, .ref abo, .int at_, .int rM, .int rB, .ref arp, .ref ark, .ref arb, .int fb, .int fto, .int (nI R), .ref awh, .ref awn, .ref awm, .ref awk, .ref amo, .ref amu]))] (some (.int (bI (vp_in q M)))) := by
  refine Rd.ofZ (cc := cX5_isMaster) (maxL := 2) (by decide) rfl (Nat.le_of_ble_eq_true rfl) ?_
  intro p e s m below meth c Q ls hE hP hK hl hret
  obtain ⟨hx, hb, hml, hown, hts⟩ := id hE
  have hl : lv_has ls 2 [(0, .ref o), (1, .int q)] := hl
  refine lv_iload_n hx hb dX5_isMaster_0 rfl (lv_at hl 1 rfl) ?_
  refine lv_if_lt (tgt := 16) hx hb dX5_isMaster_1 (by decide) (fun c1 => ?_) (fun c1 => ?_)
  ·
    refine lv_iconst (v := nI 0) hx hb dX5_isMaster_16 (by decide) ?_
    exact hret _ _ _ (by first | exact (bI_t (vin_t c1 c1 (by omega))).symm | exact (bI_f (vin_f1 c1)).symm | exact (bI_f (vin_f2 c1 (by omega))).symm | exact (bI_t (vin_t1 c1 c1 (by omega))).symm | exact (bI_f (vin_f3 c1 (by omega))).symm) dX5_isMaster_17
  ·
    refine lv_iload_n hx hb dX5_isMaster_4 rfl (lv_at hl 1 rfl) ?_
    refine lv_aload_n hx hb dX5_isMaster_5 rfl (lv_at hl 0 rfl) ?_
    refine g_get (v := .int (nI M)) hx hb hts ixX5_isMaster_X5 hown hK hP 0 rfl rfl 5 (by decide) lkX5_isMaster_65 rfl dX5_isMaster_6 ?_
    refine lv_icmp_ge (tgt := 16) hx hb dX5_isMaster_9 (by decide) (fun c2 => ?_) (fun c2 => ?_)
    ·
      refine lv_iconst (v := nI 0) hx hb dX5_isMaster_16 (by decide) ?_
      exact hret _ _ _ (by first | exact (bI_t (vin_t c1 c2 (by omega))).symm | exact (bI_f (vin_f1 c1)).symm | exact (bI_f (vin_f2 c2 (by omega))).symm | exact (bI_t (vin_t1 c1 c2 (by omega))).symm | exact (bI_f (vin_f3 c2 (by omega))).symm) dX5_isMaster_17
    ·
      refine lv_iconst (v := nI 1) hx hb dX5_isMaster_12 (by decide) ?_
      refine lv_goto (tgt := 17) hx hb dX5_isMaster_13 (by decide) ?_
      exact hret _ _ _ (by first | exact (bI_t (vin_t c1 c2 (by omega))).symm | exact (bI_f (vin_f1 c1)).symm | exact (bI_f (vin_f2 c2 (by omega))).symm | exact (bI_t (vin_t1 c1 c2 (by omega))).symm | exact (bI_f (vin_f3 c2 (by omega))).symm) dX5_isMaster_17

theorem ixX5_isBoy_X5 : ∀ w ∈ wsX50, w ∈ wsX5_isBoy := fun _ h => List.mem_cons_of_mem _ (List.mem_append_right _ h)
theorem lkX5_isBoy_68 : Cond.fieldLink RX5 68 (TX5 6).1 (TX5 6).2.1 (TX5 6).2.2.1 ∈ wsX5_isBoy := List.mem_of_getElem? (i := 1) rfl
set_option maxHeartbeats 4000000 in
set_option maxRecDepth 100000 in
theorem kX5_isBoy (l : Launch) (G : Gl) (o : Nat) (ff : Int32) (ftr : Int32) (aso : Nat) (asl : Nat) (ace : Nat) (M : Nat) (B : Nat) (ape : Nat) (aki : Nat) (abo : Nat) (at_ : Int32) (rM : Int32) (rB : Int32) (arp : Nat) (ark : Nat) (arb : Nat) (fb : Int32) (fto : Int32) (R : Nat) (awh : Nat) (awn : Nat) (awm : Nat) (awk : Nat) (amo : Nat) (amu : Nat) (q : Int32) (hB : B ≤ 4) : Rd l G yX5_isBoy wsX5_isBoy ({ frames := 0, cells := 0, slots := 0, locals := 0 } : Room) [.ref o, .int q] [(o, .inr (5, [.int ff, .int ftr, .ref aso, .ref asl, .ref ace, .int (nI M), .int (nI B), .ref ape, .ref aki, .ref abo, .int at_, .int rM, .int rB, .ref arp, .ref ark, .ref arb, .int fb, .int fto, .int (nI R), .ref awh, .ref awn, .ref awm, .ref awk, .ref amo, .ref amu]))] (some (.int (bI (vp_in q B)))) := by
  refine Rd.ofZ (cc := cX5_isBoy) (maxL := 2) (by decide) rfl (Nat.le_of_ble_eq_true rfl) ?_
  intro p e s m below meth c Q ls hE hP hK hl hret
  obtain ⟨hx, hb, hml, hown, hts⟩ := id hE
  have hl : lv_has ls 2 [(0, .ref o), (1, .int q)] := hl
  refine lv_iload_n hx hb dX5_isBoy_0 rfl (lv_at hl 1 rfl) ?_
  refine lv_if_lt (tgt := 16) hx hb dX5_isBoy_1 (by decide) (fun c1 => ?_) (fun c1 => ?_)
  ·
    refine lv_iconst (v := nI 0) hx hb dX5_isBoy_16 (by decide) ?_
    exact hret _ _ _ (by first | exact (bI_t (vin_t c1 c1 (by omega))).symm | exact (bI_f (vin_f1 c1)).symm | exact (bI_f (vin_f2 c1 (by omega))).symm | exact (bI_t (vin_t1 c1 c1 (by omega))).symm | exact (bI_f (vin_f3 c1 (by omega))).symm) dX5_isBoy_17
  ·
    refine lv_iload_n hx hb dX5_isBoy_4 rfl (lv_at hl 1 rfl) ?_
    refine lv_aload_n hx hb dX5_isBoy_5 rfl (lv_at hl 0 rfl) ?_
    refine g_get (v := .int (nI B)) hx hb hts ixX5_isBoy_X5 hown hK hP 0 rfl rfl 6 (by decide) lkX5_isBoy_68 rfl dX5_isBoy_6 ?_
    refine lv_icmp_ge (tgt := 16) hx hb dX5_isBoy_9 (by decide) (fun c2 => ?_) (fun c2 => ?_)
    ·
      refine lv_iconst (v := nI 0) hx hb dX5_isBoy_16 (by decide) ?_
      exact hret _ _ _ (by first | exact (bI_t (vin_t c1 c2 (by omega))).symm | exact (bI_f (vin_f1 c1)).symm | exact (bI_f (vin_f2 c2 (by omega))).symm | exact (bI_t (vin_t1 c1 c2 (by omega))).symm | exact (bI_f (vin_f3 c2 (by omega))).symm) dX5_isBoy_17
    ·
      refine lv_iconst (v := nI 1) hx hb dX5_isBoy_12 (by decide) ?_
      refine lv_goto (tgt := 17) hx hb dX5_isBoy_13 (by decide) ?_
      exact hret _ _ _ (by first | exact (bI_t (vin_t c1 c2 (by omega))).symm | exact (bI_f (vin_f1 c1)).symm | exact (bI_f (vin_f2 c2 (by omega))).symm | exact (bI_t (vin_t1 c1 c2 (by omega))).symm | exact (bI_f (vin_f3 c2 (by omega))).symm) dX5_isBoy_17

set_option maxHeartbeats 4000000 in
set_option maxRecDepth 100000 in
theorem kX5_spot (l : Launch) (G : Gl) (a : Nat) (b : Nat) : Rd l G yX5_spot wsX5_spot ({ frames := 0, cells := 0, slots := 0, locals := 0 } : Room) [.int (nI a), .int (nI b)] [] (some (.int (nI (a * 5 + b)))) := by
  refine Rd.ofI (cc := cX5_spot) (maxL := 2) (by decide) rfl (Nat.le_of_ble_eq_true rfl) ?_
  intro p e s m below meth c Q ls hE hP hK hl hret
  obtain ⟨hx, hb, hml, hown, hts⟩ := id hE
  have hl : lv_has ls 2 [(0, .int (nI a)), (1, .int (nI b))] := hl
  refine lv_iconst (v := nI 5) hx hb dX5_spot_0 (by decide) ?_
  refine lv_iload_n hx hb dX5_spot_1 rfl (lv_at hl 0 rfl) ?_
  refine lv_imul hx hb dX5_spot_2 ?_
  refine lv_tope (show (nI 5) * (nI a) = nI (5 * a) from pk_mul _ _) ?_
  refine lv_iload_n hx hb dX5_spot_3 rfl (lv_at hl 1 rfl) ?_
  refine lv_iadd hx hb dX5_spot_4 ?_
  refine lv_tope (show (nI (5 * a)) + (nI b) = nI ((5 * a) + b) from nI_add _ _) ?_
  exact hret _ _ _ (by rw [Nat.mul_comm]) dX5_spot_5
