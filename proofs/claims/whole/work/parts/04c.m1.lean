theorem ixX5_fails_X5 : ∀ w ∈ wsX50, w ∈ wsX5_fails := fun _ h => List.mem_cons_of_mem _ (List.mem_append_right _ h)
theorem lkX5_fails_55 : Cond.fieldLink RX5 55 (TX5 0).1 (TX5 0).2.1 (TX5 0).2.2.1 ∈ wsX5_fails := List.mem_of_getElem? (i := 1) rfl
set_option maxHeartbeats 4000000 in
set_option maxRecDepth 100000 in
theorem kX5_fails (l : Launch) (G : Gl) (o : Nat) (ff : Int32) (ftr : Int32) (aso : Nat) (asl : Nat) (ace : Nat) (M : Nat) (B : Nat) (ape : Nat) (aki : Nat) (abo : Nat) (at_ : Int32) (rM : Int32) (rB : Int32) (arp : Nat) (ark : Nat) (arb : Nat) (fb : Int32) (fto : Int32) (R : Nat) (awh : Nat) (awn : Nat) (awm : Nat) (awk : Nat) (amo : Nat) (amu : Nat) (q : Int32) : Wt l G yX5_fails wsX5_fails ({ frames := 0, cells := 0, slots := 0, locals := 0 } : Room) [.ref o, .int q] [(o, .inr (5, [.int ff, .int ftr, .ref aso, .ref asl, .ref ace, .int (nI M), .int (nI B), .ref ape, .ref aki, .ref abo, .int at_, .int rM, .int rB, .ref arp, .ref ark, .ref arb, .int fb, .int fto, .int (nI R), .ref awh, .ref awn, .ref awm, .ref awk, .ref amo, .ref amu]))] [(o, .inr (5, [.int q, .int ftr, .ref aso, .ref asl, .ref ace, .int (nI M), .int (nI B), .ref ape, .ref aki, .ref abo, .int at_, .int rM, .int rB, .ref arp, .ref ark, .ref arb, .int fb, .int fto, .int (nI R), .ref awh, .ref awn, .ref awm, .ref awk, .ref amo, .ref amu]))] (some (.int ((-10) - q))) := by
  refine Wt.ofI (cc := cX5_fails) (maxL := 2) (by decide) rfl (Nat.le_of_ble_eq_true rfl) ?_
  intro p e s m below meth c Q A ls hE hP hK hD hS hl hret
  obtain ⟨hx, hb, hml, hown, hts⟩ := id hE
  have hl : lv_has ls 2 [(0, .ref o), (1, .int q)] := hl
  refine lv_aload_n hx hb dX5_fails_0 rfl (lv_at hl 0 rfl) ?_
  refine lv_iload_n hx hb dX5_fails_1 rfl (lv_at hl 1 rfl) ?_
  refine g_put (v := q) hx hb hts ixX5_fails_X5 tyX5 tyX5_ok nmX5 hown hK hP hD hS 0 rfl rfl 0 (by decide) lkX5_fails_55 rfl rfl (by simp only [List.length_cons, List.length_nil]; omega) dX5_fails_2 (fun H locs hP hD hS => ?_)
  have hP : va_P G.1 vwCl [(o, .inr (5, [.int q, .int ftr, .ref aso, .ref asl, .ref ace, .int (nI M), .int (nI B), .ref ape, .ref aki, .ref abo, .int at_, .int rM, .int rB, .ref arp, .ref ark, .ref arb, .int fb, .int fto, .int (nI R), .ref awh, .ref awn, .ref awm, .ref awk, .ref amo, .ref amu]))] H := hP
  have hD : va_D A [(o, .inr (5, [.int q, .int ftr, .ref aso, .ref asl, .ref ace, .int (nI M), .int (nI B), .ref ape, .ref aki, .ref abo, .int at_, .int rM, .int rB, .ref arp, .ref ark, .ref arb, .int fb, .int fto, .int (nI R), .ref awh, .ref awn, .ref awm, .ref awk, .ref amo, .ref amu]))] := hD
  refine lv_bipush (v := (-10)) hx hb dX5_fails_5 (by decide) ?_
  refine lv_iload_n hx hb dX5_fails_7 rfl (lv_at hl 1 rfl) ?_
  refine lv_isub hx hb dX5_fails_8 ?_
  exact hret _ _ _ _ _ (by first | with_reducible rfl | simp only []) (hP) hS dX5_fails_9

theorem ixX5_lost_X5 : ∀ w ∈ wsX50, w ∈ wsX5_lost := fun _ h => List.mem_cons_of_mem _ (List.mem_append_right _ h)
theorem lkX5_lost_55 : Cond.fieldLink RX5 55 (TX5 0).1 (TX5 0).2.1 (TX5 0).2.2.1 ∈ wsX5_lost := List.mem_of_getElem? (i := 1) rfl
set_option maxHeartbeats 4000000 in
set_option maxRecDepth 100000 in
theorem kX5_lost (l : Launch) (G : Gl) (o : Nat) (ff : Int32) (ftr : Int32) (aso : Nat) (asl : Nat) (ace : Nat) (M : Nat) (B : Nat) (ape : Nat) (aki : Nat) (abo : Nat) (at_ : Int32) (rM : Int32) (rB : Int32) (arp : Nat) (ark : Nat) (arb : Nat) (fb : Int32) (fto : Int32) (R : Nat) (awh : Nat) (awn : Nat) (awm : Nat) (awk : Nat) (amo : Nat) (amu : Nat) (q : Int32) : Wt l G yX5_lost wsX5_lost ({ frames := 0, cells := 0, slots := 0, locals := 0 } : Room) [.ref o, .int q] [(o, .inr (5, [.int ff, .int ftr, .ref aso, .ref asl, .ref ace, .int (nI M), .int (nI B), .ref ape, .ref aki, .ref abo, .int at_, .int rM, .int rB, .ref arp, .ref ark, .ref arb, .int fb, .int fto, .int (nI R), .ref awh, .ref awn, .ref awm, .ref awk, .ref amo, .ref amu]))] [(o, .inr (5, [.int q, .int ftr, .ref aso, .ref asl, .ref ace, .int (nI M), .int (nI B), .ref ape, .ref aki, .ref abo, .int at_, .int rM, .int rB, .ref arp, .ref ark, .ref arb, .int fb, .int fto, .int (nI R), .ref awh, .ref awn, .ref awm, .ref awk, .ref amo, .ref amu]))] (some (.long (-9223372036854775808))) := by
  refine Wt.ofL (cc := cX5_lost) (maxL := 2) (by decide) rfl (Nat.le_of_ble_eq_true rfl) ?_
  intro p e s m below meth c Q A ls hE hP hK hD hS hl hret
  obtain ⟨hx, hb, hml, hown, hts⟩ := id hE
  have hl : lv_has ls 2 [(0, .ref o), (1, .int q)] := hl
  refine lv_aload_n hx hb dX5_lost_0 rfl (lv_at hl 0 rfl) ?_
  refine lv_iload_n hx hb dX5_lost_1 rfl (lv_at hl 1 rfl) ?_
  refine g_put (v := q) hx hb hts ixX5_lost_X5 tyX5 tyX5_ok nmX5 hown hK hP hD hS 0 rfl rfl 0 (by decide) lkX5_lost_55 rfl rfl (by simp only [List.length_cons, List.length_nil]; omega) dX5_lost_2 (fun H locs hP hD hS => ?_)
  have hP : va_P G.1 vwCl [(o, .inr (5, [.int q, .int ftr, .ref aso, .ref asl, .ref ace, .int (nI M), .int (nI B), .ref ape, .ref aki, .ref abo, .int at_, .int rM, .int rB, .ref arp, .ref ark, .ref arb, .int fb, .int fto, .int (nI R), .ref awh, .ref awn, .ref awm, .ref awk, .ref amo, .ref amu]))] H := hP
  have hD : va_D A [(o, .inr (5, [.int q, .int ftr, .ref aso, .ref asl, .ref ace, .int (nI M), .int (nI B), .ref ape, .ref aki, .ref abo, .int at_, .int rM, .int rB, .ref arp, .ref ark, .ref arb, .int fb, .int fto, .int (nI R), .ref awh, .ref awn, .ref awm, .ref awk, .ref amo, .ref amu]))] := hD
  refine lv_ldc2 (v := (-9223372036854775808)) hx hb hown (hts (.constantLong RX5 59 (-9223372036854775808)) (List.mem_of_getElem? (i := 2) rfl)) dX5_lost_5 ?_
  exact hret _ _ _ _ _ (by first | with_reducible rfl | simp only []) (hP) hS dX5_lost_8

set_option maxHeartbeats 4000000 in
set_option maxRecDepth 100000 in
theorem kX5_within0 (l : Launch) (G : Gl) (q : Int32) (n : Nat) (hn : n < 2 ^ 30) : Rd l G yX5_within wsX5_within ({ frames := 0, cells := 0, slots := 0, locals := 0 } : Room) [.int q, .int (nI 0), .int (nI n)] [] (some (.int (bI (vp_in q (n + 1))))) := by
  refine Rd.ofZ (cc := cX5_within) (maxL := 3) (by decide) rfl (Nat.le_of_ble_eq_true rfl) ?_
  intro p e s m below meth c Q ls hE hP hK hl hret
  obtain ⟨hx, hb, hml, hown, hts⟩ := id hE
  have hl : lv_has ls 3 [(0, .int q), (1, .int (nI 0)), (2, .int (nI n))] := hl
  refine lv_iload_n hx hb dX5_within_0 rfl (lv_at hl 0 rfl) ?_
  refine lv_iload_n hx hb dX5_within_1 rfl (lv_at hl 1 rfl) ?_
  refine lv_icmp_lt (tgt := 14) hx hb dX5_within_2 (by decide) (fun c1 => ?_) (fun c1 => ?_)
  ·
    refine lv_iconst (v := nI 0) hx hb dX5_within_14 (by decide) ?_
    exact hret _ _ _ ((bI_f (vin_f1 c1)).symm) dX5_within_15
  ·
    refine lv_iload_n hx hb dX5_within_5 rfl (lv_at hl 0 rfl) ?_
    refine lv_iload_n hx hb dX5_within_6 rfl (lv_at hl 2 rfl) ?_
    refine lv_icmp_gt (tgt := 14) hx hb dX5_within_7 (by decide) (fun c2 => ?_) (fun c2 => ?_)
    ·
      refine lv_iconst (v := nI 0) hx hb dX5_within_14 (by decide) ?_
      exact hret _ _ _ ((bI_f (vin_f3 (i32_lt c2) (by omega))).symm) dX5_within_15
    ·
      refine lv_iconst (v := nI 1) hx hb dX5_within_10 (by decide) ?_
      refine lv_goto (tgt := 15) hx hb dX5_within_11 (by decide) ?_
      exact hret _ _ _ ((bI_t (vin_t1 c1 (i32_nlt c2) (by omega))).symm) dX5_within_15

set_option maxHeartbeats 4000000 in
set_option maxRecDepth 100000 in
theorem kX5_within (l : Launch) (G : Gl) (q : Int32) (a : Int32) (b : Int32) : Rd l G yX5_within wsX5_within ({ frames := 0, cells := 0, slots := 0, locals := 0 } : Room) [.int q, .int a, .int b] [] (some (.int (bI (¬ q < a ∧ ¬ b < q)))) := by
  refine Rd.ofZ (cc := cX5_within) (maxL := 3) (by decide) rfl (Nat.le_of_ble_eq_true rfl) ?_
  intro p e s m below meth c Q ls hE hP hK hl hret
  obtain ⟨hx, hb, hml, hown, hts⟩ := id hE
  have hl : lv_has ls 3 [(0, .int q), (1, .int a), (2, .int b)] := hl
  refine lv_iload_n hx hb dX5_within_0 rfl (lv_at hl 0 rfl) ?_
  refine lv_iload_n hx hb dX5_within_1 rfl (lv_at hl 1 rfl) ?_
  refine lv_icmp_lt (tgt := 14) hx hb dX5_within_2 (by decide) (fun c1 => ?_) (fun c1 => ?_)
  ·
    refine lv_iconst (v := nI 0) hx hb dX5_within_14 (by decide) ?_
    exact hret _ _ _ ((bI_f (fun h => by obtain ⟨h0, h1⟩ := h; contradiction)).symm) dX5_within_15
  ·
    refine lv_iload_n hx hb dX5_within_5 rfl (lv_at hl 0 rfl) ?_
    refine lv_iload_n hx hb dX5_within_6 rfl (lv_at hl 2 rfl) ?_
    refine lv_icmp_gt (tgt := 14) hx hb dX5_within_7 (by decide) (fun c2 => ?_) (fun c2 => ?_)
    ·
      refine lv_iconst (v := nI 0) hx hb dX5_within_14 (by decide) ?_
      exact hret _ _ _ ((bI_f (fun h => by obtain ⟨h0, h1⟩ := h; contradiction)).symm) dX5_within_15
    ·
      refine lv_iconst (v := nI 1) hx hb dX5_within_10 (by decide) ?_
      refine lv_goto (tgt := 15) hx hb dX5_within_11 (by decide) ?_
      exact hret _ _ _ ((bI_t ⟨c1, c2⟩).symm) dX5_within_15

set_option maxHeartbeats 4000000 in
set_option maxRecDepth 100000 in
theorem kX5_isSheet (l : Launch) (G : Gl) (q : Int32) : Rd l G yX5_isSheet wsX5_isSheet ({ frames := 1, cells := 0, slots := 0, locals := 22 } : Room) [.int q] [] (some (.int (bI (vp_in q 4)))) := by
  refine Rd.ofZ (cc := cX5_isSheet) (maxL := 1) (by decide) rfl (Nat.le_of_ble_eq_true rfl) ?_
  intro p e s m below meth c Q ls hE hP hK hl hret
  obtain ⟨hx, hb, hml, hown, hts⟩ := id hE
  have hl : lv_has ls 1 [(0, .int q)] := hl
  refine lv_iload_n hx hb dX5_isSheet_0 rfl (lv_at hl 0 rfl) ?_
  refine lv_iconst (v := nI 0) hx hb dX5_isSheet_1 (by decide) ?_
  refine lv_iconst (v := nI 3) hx hb dX5_isSheet_2 (by decide) ?_
  refine rdS (As := [.int q, .int (nI 0), .int (nI 3)]) (rest := []) hE (kX5_within0 l G q 3 (by first | omega | assumption)) (va_cwS 3 hts gX5_isSheet_X5_within rfl rfl rfl (by decide +kernel) ⟨Nat.le_of_ble_eq_true rfl, Nat.le_of_ble_eq_true rfl⟩) hP hK [] rfl rfl hl.1 rfl (Nat.le_of_ble_eq_true rfl) dX5_isSheet_3 ⟨Nat.zero_le _, Nat.zero_le _⟩ ?_
  refine W.eq (g2 := F0 m 6 ls [.int (bI (vp_in q (3 + 1)))]) rfl ?_
  exact hret _ _ _ (rfl) dX5_isSheet_6

set_option maxHeartbeats 4000000 in
set_option maxRecDepth 100000 in
theorem kX5_isSort (l : Launch) (G : Gl) (q : Int32) : Rd l G yX5_isSort wsX5_isSort ({ frames := 1, cells := 0, slots := 0, locals := 22 } : Room) [.int q] [] (some (.int (bI (vp_in q (2 + 1))))) := by
  refine Rd.ofZ (cc := cX5_isSort) (maxL := 1) (by decide) rfl (Nat.le_of_ble_eq_true rfl) ?_
  intro p e s m below meth c Q ls hE hP hK hl hret
  obtain ⟨hx, hb, hml, hown, hts⟩ := id hE
  have hl : lv_has ls 1 [(0, .int q)] := hl
  refine lv_iload_n hx hb dX5_isSort_0 rfl (lv_at hl 0 rfl) ?_
  refine lv_iconst (v := nI 0) hx hb dX5_isSort_1 (by decide) ?_
  refine lv_iconst (v := nI 2) hx hb dX5_isSort_2 (by decide) ?_
  refine rdS (As := [.int q, .int (nI 0), .int (nI 2)]) (rest := []) hE (kX5_within0 l G q 2 (by first | omega | assumption)) (va_cwS 3 hts gX5_isSort_X5_within rfl rfl rfl (by decide +kernel) ⟨Nat.le_of_ble_eq_true rfl, Nat.le_of_ble_eq_true rfl⟩) hP hK [] rfl rfl hl.1 rfl (Nat.le_of_ble_eq_true rfl) dX5_isSort_3 ⟨Nat.zero_le _, Nat.zero_le _⟩ ?_
  refine W.eq (g2 := F0 m 6 ls [.int (bI (vp_in q (2 + 1)))]) rfl ?_
  exact hret _ _ _ (rfl) dX5_isSort_6

theorem ixX5_isMaster_X5 : ∀ w ∈ wsX50, w ∈ wsX5_isMaster := fun _ h => List.mem_cons_of_mem _ (List.mem_append_right _ h)
theorem lkX5_isMaster_65 : Cond.fieldLink RX5 65 (TX5 5).1 (TX5 5).2.1 (TX5 5).2.2.1 ∈ wsX5_isMaster := List.mem_of_getElem? (i := 1) rfl
set_option maxHeartbeats 4000000 in
set_option maxRecDepth 100000 in
theorem kX5_isMaster (l : Launch) (G : Gl) (o : Nat) (ff : Int32) (ftr : Int32) (aso : Nat) (asl : Nat) (ace : Nat) (M : Nat) (B : Nat) (ape : Nat) (aki : Nat) (abo : Nat) (at_ : Int32) (rM : Int32) (rB : Int32) (arp : Nat) (ark : Nat) (arb : Nat) (fb : Int32) (fto : Int32) (R : Nat) (awh : Nat) (awn : Nat) (awm : Nat) (awk : Nat) (amo : Nat) (amu : Nat) (q : Int32) (hM : M ≤ 5) : Rd l G yX5_isMaster wsX5_isMaster ({ frames := 0, cells := 0, slots := 0, locals := 0 } : Room) [.ref o, .int q] [(o, .inr (5, [.int ff, .int ftr, .ref aso, .ref asl, .ref ace, .int (nI M), .int (nI B), .ref ape, .ref aki, .ref abo, .int at_, .int rM, .int rB, .ref arp, .ref ark, .ref arb, .int fb, .int fto, .int (nI R), .ref awh, .ref awn, .ref awm, .ref awk, .ref amo, .ref amu]))] (some (.int (bI (vp_in q M)))) := by
  refine Rd.ofZ (cc := cX5_isMaster) (maxL := 2) (by decide) rfl (Nat.le_of_ble_eq_true rfl) ?_
  intro p e s m below meth c Q ls hE hP hK hl hret
  obtain ⟨hx, hb, hml, hown, hts⟩ := id hE
  have hl : lv_has ls 2 [(0, .ref o), (1, .int q)] := hl
  refine lv_iload_n hx hb dX5_isMaster_0 rfl (lv_at hl 1 rfl) ?_
  refine lv_if_lt (tgt := 16) hx hb dX5_isMaster_1 (by decide) (fun c1 => ?_) (fun c1 => ?_)
  ·
    refine lv_iconst (v := nI 0) hx hb dX5_isMaster_16 (by decide) ?_
    exact hret _ _ _ (by first | exact (bI_t (vin_t c1 c1 (by omega))).symm | exact (bI_f (vin_f1 c1)).symm | exact (bI_f (vin_f2 c1 (by omega))).symm | exact (bI_t (vin_t1 c1 c1 (by omega))).symm | exact (bI_f (vin_f3 c1 (by omega))).symm) dX5_isMaster_17
  ·
    refine lv_iload_n hx hb dX5_isMaster_4 rfl (lv_at hl 1 rfl) ?_
    refine lv_aload_n hx hb dX5_isMaster_5 rfl (lv_at hl 0 rfl) ?_
    refine g_get (v := .int (nI M)) hx hb hts ixX5_isMaster_X5 hown hK hP 0 rfl rfl 5 (by decide) lkX5_isMaster_65 rfl dX5_isMaster_6 ?_
    refine lv_icmp_ge (tgt := 16) hx hb dX5_isMaster_9 (by decide) (fun c2 => ?_) (fun c2 => ?_)
    ·
      refine lv_iconst (v := nI 0) hx hb dX5_isMaster_16 (by decide) ?_
      exact hret _ _ _ (by first | exact (bI_t (vin_t c1 c2 (by omega))).symm | exact (bI_f (vin_f1 c1)).symm | exact (bI_f (vin_f2 c2 (by omega))).symm | exact (bI_t (vin_t1 c1 c2 (by omega))).symm | exact (bI_f (vin_f3 c2 (by omega))).symm) dX5_isMaster_17
    ·
      refine lv_iconst (v := nI 1) hx hb dX5_isMaster_12 (by decide) ?_
      refine lv_goto (tgt := 17) hx hb dX5_isMaster_13 (by decide) ?_
      exact hret _ _ _ (by first | exact (bI_t (vin_t c1 c2 (by omega))).symm | exact (bI_f (vin_f1 c1)).symm | exact (bI_f (vin_f2 c2 (by omega))).symm | exact (bI_t (vin_t1 c1 c2 (by omega))).symm | exact (bI_f (vin_f3 c2 (by omega))).symm) dX5_isMaster_17

theorem ixX5_isBoy_X5 : ∀ w ∈ wsX50, w ∈ wsX5_isBoy := fun _ h => List.mem_cons_of_mem _ (List.mem_append_right _ h)
theorem lkX5_isBoy_68 : Cond.fieldLink RX5 68 (TX5 6).1 (TX5 6).2.1 (TX5 6).2.2.1 ∈ wsX5_isBoy := List.mem_of_getElem? (i := 1) rfl
set_option maxHeartbeats 4000000 in
set_option maxRecDepth 100000 in
theorem kX5_isBoy (l : Launch) (G : Gl) (o : Nat) (ff : Int32) (ftr : Int32) (aso : Nat) (asl : Nat) (ace : Nat) (M : Nat) (B : Nat) (ape : Nat) (aki : Nat) (abo : Nat) (at_ : Int32) (rM : Int32) (rB : Int32) (arp : Nat) (ark : Nat) (arb : Nat) (fb : Int32) (fto : Int32) (R : Nat) (awh : Nat) (awn : Nat) (awm : Nat) (awk : Nat) (amo : Nat) (amu : Nat) (q : Int32) (hB : B ≤ 4) : Rd l G yX5_isBoy wsX5_isBoy ({ frames := 0, cells := 0, slots := 0, locals := 0 } : Room) [.ref o, .int q] [(o, .inr (5, [.int ff, .int ftr, .ref aso, .ref asl, .ref ace, .int (nI M), .int (nI B), .ref ape, .ref aki, .ref abo, .int at_, .int rM, .int rB, .ref arp, .ref ark, .ref arb, .int fb, .int fto, .int (nI R), .ref awh, .ref awn, .ref awm, .ref awk, .ref amo, .ref amu]))] (some (.int (bI (vp_in q B)))) := by
  refine Rd.ofZ (cc := cX5_isBoy) (maxL := 2) (by decide) rfl (Nat.le_of_ble_eq_true rfl) ?_
  intro p e s m below meth c Q ls hE hP hK hl hret
  obtain ⟨hx, hb, hml, hown, hts⟩ := id hE
  have hl : lv_has ls 2 [(0, .ref o), (1, .int q)] := hl
  refine lv_iload_n hx hb dX5_isBoy_0 rfl (lv_at hl 1 rfl) ?_
  refine lv_if_lt (tgt := 16) hx hb dX5_isBoy_1 (by decide) (fun c1 => ?_) (fun c1 => ?_)
  ·
    refine lv_iconst (v := nI 0) hx hb dX5_isBoy_16 (by decide) ?_
    exact hret _ _ _ (by first | exact (bI_t (vin_t c1 c1 (by omega))).symm | exact (bI_f (vin_f1 c1)).symm | exact (bI_f (vin_f2 c1 (by omega))).symm | exact (bI_t (vin_t1 c1 c1 (by omega))).symm | exact (bI_f (vin_f3 c1 (by omega))).symm) dX5_isBoy_17
  ·
    refine lv_iload_n hx hb dX5_isBoy_4 rfl (lv_at hl 1 rfl) ?_
    refine lv_aload_n hx hb dX5_isBoy_5 rfl (lv_at hl 0 rfl) ?_
    refine g_get (v := .int (nI B)) hx hb hts ixX5_isBoy_X5 hown hK hP 0 rfl rfl 6 (by decide) lkX5_isBoy_68 rfl dX5_isBoy_6 ?_
    refine lv_icmp_ge (tgt := 16) hx hb dX5_isBoy_9 (by decide) (fun c2 => ?_) (fun c2 => ?_)
    ·
      refine lv_iconst (v := nI 0) hx hb dX5_isBoy_16 (by decide) ?_
      exact hret _ _ _ (by first | exact (bI_t (vin_t c1 c2 (by omega))).symm | exact (bI_f (vin_f1 c1)).symm | exact (bI_f (vin_f2 c2 (by omega))).symm | exact (bI_t (vin_t1 c1 c2 (by omega))).symm | exact (bI_f (vin_f3 c2 (by omega))).symm) dX5_isBoy_17
    ·
      refine lv_iconst (v := nI 1) hx hb dX5_isBoy_12 (by decide) ?_
      refine lv_goto (tgt := 17) hx hb dX5_isBoy_13 (by decide) ?_
      exact hret _ _ _ (by first | exact (bI_t (vin_t c1 c2 (by omega))).symm | exact (bI_f (vin_f1 c1)).symm | exact (bI_f (vin_f2 c2 (by omega))).symm | exact (bI_t (vin_t1 c1 c2 (by omega))).symm | exact (bI_f (vin_f3 c2 (by omega))).symm) dX5_isBoy_17

set_option maxHeartbeats 4000000 in
set_option maxRecDepth 100000 in
theorem kX5_spot (l : Launch) (G : Gl) (a : Nat) (b : Nat) : Rd l G yX5_spot wsX5_spot ({ frames := 0, cells := 0, slots := 0, locals := 0 } : Room) [.int (nI a), .int (nI b)] [] (some (.int (nI (a * 5 + b)))) := by
  refine Rd.ofI (cc := cX5_spot) (maxL := 2) (by decide) rfl (Nat.le_of_ble_eq_true rfl) ?_
  intro p e s m below meth c Q ls hE hP hK hl hret
  obtain ⟨hx, hb, hml, hown, hts⟩ := id hE
  have hl : lv_has ls 2 [(0, .int (nI a)), (1, .int (nI b))] := hl
  refine lv_iconst (v := nI 5) hx hb dX5_spot_0 (by decide) ?_
  refine lv_iload_n hx hb dX5_spot_1 rfl (lv_at hl 0 rfl) ?_
  refine lv_imul hx hb dX5_spot_2 ?_
  refine lv_tope (show (nI 5) * (nI a) = nI (5 * a) from pk_mul _ _) ?_
  refine lv_iload_n hx hb dX5_spot_3 rfl (lv_at hl 1 rfl) ?_
  refine lv_iadd hx hb dX5_spot_4 ?_
  refine lv_tope (show (nI (5 * a)) + (nI b) = nI ((5 * a) + b) from nI_add _ _) ?_
  exact hret _ _ _ (by rw [Nat.mul_comm]) dX5_spot_5

theorem ixX5_learns_X5 : ∀ w ∈ wsX50, w ∈ wsX5_learns := fun _ h => List.mem_cons_of_mem _ (List.mem_append_right _ h)
theorem lkX5_learns_22 : Cond.fieldLink RX5 22 (TX5 8).1 (TX5 8).2.1 (TX5 8).2.2.1 ∈ wsX5_learns := List.mem_of_getElem? (i := 1) rfl
set_option maxHeartbeats 4000000 in
set_option maxRecDepth 100000 in
theorem kX5_learns (l : Launch) (G : Gl) (o : Nat) (ff : Int32) (ftr : Int32) (aso : Nat) (asl : Nat) (ace : Nat) (M : Nat) (B : Nat) (ape : Nat) (aki : Nat) (abo : Nat) (at_ : Int32) (rM : Int32) (rB : Int32) (arp : Nat) (ark : Nat) (arb : Nat) (fb : Int32) (fto : Int32) (R : Nat) (awh : Nat) (awn : Nat) (awm : Nat) (awk : Nat) (amo : Nat) (amu : Nat) (K : Nat → Int32) (b : Nat) (hb4 : b < 4) (hk : kd (K b)) : Rd l G yX5_learns wsX5_learns ({ frames := 0, cells := 0, slots := 0, locals := 0 } : Room) [.ref o, .int (nI b)] [(o, .inr (5, [.int ff, .int ftr, .ref aso, .ref asl, .ref ace, .int (nI M), .int (nI B), .ref ape, .ref aki, .ref abo, .int at_, .int rM, .int rB, .ref arp, .ref ark, .ref arb, .int fb, .int fto, .int (nI R), .ref awh, .ref awn, .ref awm, .ref awk, .ref amo, .ref amu])), (aki, aI G 4 K)] (some (.int (lrn (K b)))) := by
  refine Rd.ofI (cc := cX5_learns) (maxL := 2) (by decide) rfl (Nat.le_of_ble_eq_true rfl) ?_
  intro p e s m below meth c Q ls hE hP hK hl hret
  obtain ⟨hx, hb, hml, hown, hts⟩ := id hE
  have hl : lv_has ls 2 [(0, .ref o), (1, .int (nI b))] := hl
  refine lv_aload_n hx hb dX5_learns_0 rfl (lv_at hl 0 rfl) ?_
  refine g_get (v := .ref aki) hx hb hts ixX5_learns_X5 hown hK hP 0 rfl rfl 8 (by decide) lkX5_learns_22 rfl dX5_learns_1 ?_
  refine lv_iload_n hx hb dX5_learns_4 rfl (lv_at hl 1 rfl) ?_
  refine n_ald hx hb hK hP 1 rfl (k := b) (by omega) (by decide) dX5_learns_5 ?_
  refine lv_if_ne (tgt := 14) hx hb dX5_learns_6 (by decide) (fun c1 => ?_) (fun c1 => ?_)
  ·
    refine lv_aload_n hx hb dX5_learns_14 rfl (lv_at hl 0 rfl) ?_
    refine g_get (v := .ref aki) hx hb hts ixX5_learns_X5 hown hK hP 0 rfl rfl 8 (by decide) lkX5_learns_22 rfl dX5_learns_15 ?_
    refine lv_iload_n hx hb dX5_learns_18 rfl (lv_at hl 1 rfl) ?_
    refine n_ald hx hb hK hP 1 rfl (k := b) (by omega) (by decide) dX5_learns_19 ?_
    refine lv_iconst (v := nI 1) hx hb dX5_learns_20 (by decide) ?_
    refine lv_icmp_ne (tgt := 29) hx hb dX5_learns_21 (by decide) (fun c2 => ?_) (fun c2 => ?_)
    ·
      refine lv_iconst (v := nI 4) hx hb dX5_learns_29 (by decide) ?_
      exact hret _ _ _ (lrn_2 hk c1 c2) dX5_learns_30
    ·
      refine lv_bipush (v := nI 12) hx hb dX5_learns_24 (by decide) ?_
      refine lv_goto (tgt := 30) hx hb dX5_learns_26 (by decide) ?_
      exact hret _ _ _ (lrn_1 c2) dX5_learns_30
  ·
    refine lv_bipush (v := nI 9) hx hb dX5_learns_9 (by decide) ?_
    refine lv_goto (tgt := 30) hx hb dX5_learns_11 (by decide) ?_
    exact hret _ _ _ (lrn_0 c1) dX5_learns_30

theorem ixX5_ofBoy_X5 : ∀ w ∈ wsX50, w ∈ wsX5_ofBoy := fun _ h => List.mem_cons_of_mem _ (List.mem_append_right _ h)
theorem lkX5_ofBoy_25 : Cond.fieldLink RX5 25 (TX5 9).1 (TX5 9).2.1 (TX5 9).2.2.1 ∈ wsX5_ofBoy := List.mem_of_getElem? (i := 2) rfl
theorem lkX5_ofBoy_22 : Cond.fieldLink RX5 22 (TX5 8).1 (TX5 8).2.1 (TX5 8).2.2.1 ∈ wsX5_ofBoy := List.mem_of_getElem? (i := 1) rfl
set_option maxHeartbeats 4000000 in
set_option maxRecDepth 100000 in
theorem kX5_ofBoy (l : Launch) (G : Gl) (o : Nat) (ff : Int32) (ftr : Int32) (aso : Nat) (asl : Nat) (ace : Nat) (M : Nat) (B : Nat) (ape : Nat) (aki : Nat) (abo : Nat) (at_ : Int32) (rM : Int32) (rB : Int32) (arp : Nat) (ark : Nat) (arb : Nat) (fb : Int32) (fto : Int32) (R : Nat) (awh : Nat) (awn : Nat) (awm : Nat) (awk : Nat) (amo : Nat) (amu : Nat) (K : Nat → Int32) (U : Nat → Int32) (b : Int32) (w : Int32) (hB : B ≤ 4) (hK3 : ∀ b, b < B → kd (K b)) : Rd l G yX5_ofBoy wsX5_ofBoy ({ frames := 1, cells := 0, slots := 0, locals := 21 } : Room) [.ref o, .int b, .int w] [(o, .inr (5, [.int ff, .int ftr, .ref aso, .ref asl, .ref ace, .int (nI M), .int (nI B), .ref ape, .ref aki, .ref abo, .int at_, .int rM, .int rB, .ref arp, .ref ark, .ref arb, .int fb, .int fto, .int (nI R), .ref awh, .ref awn, .ref awm, .ref awk, .ref amo, .ref amu])), (aki, aI G 4 K), (abo, aI G 4 U)] (some (.int (s_ofBoy B K U b w))) := by
  refine Rd.ofI (cc := cX5_ofBoy) (maxL := 3) (by decide) rfl (Nat.le_of_ble_eq_true rfl) ?_
  intro p e s m below meth c Q ls hE hP hK hl hret
  obtain ⟨hx, hb, hml, hown, hts⟩ := id hE
  have hl : lv_has ls 3 [(0, .ref o), (1, .int b), (2, .int w)] := hl
  refine lv_aload_n hx hb dX5_ofBoy_0 rfl (lv_at hl 0 rfl) ?_
  refine lv_iload_n hx hb dX5_ofBoy_1 rfl (lv_at hl 1 rfl) ?_
  refine rdV (As := [.int b]) (rest := []) (ci := 5) (q0 := 0) hE (kX5_isBoy l G o ff ftr aso asl ace M B ape aki abo at_ rM rB arp ark arb fb fto R awh awn awm awk amo amu b hB) (cwV 1 hts gX5_ofBoy_X5_isBoy rfl rfl rfl (by decide +kernel) ⟨Nat.le_of_ble_eq_true rfl, Nat.le_of_ble_eq_true rfl⟩) hP hK [0] rfl rfl rfl rfl hl.1 rfl (Nat.le_of_ble_eq_true rfl) dX5_ofBoy_2 ⟨Nat.zero_le _, Nat.zero_le _⟩ ?_
  refine W.eq (g2 := F0 m 5 ls [.int (bI (vp_in b B))]) rfl ?_
  refine bz_ne (tgt := 10) hx hb dX5_ofBoy_5 (by decide) (fun c1 => ?_) (fun c1 => ?_)
  ·
    obtain ⟨jb, hjb, rfl⟩ := vp_in_of c1 (by omega)
    refine lv_iload_n hx hb dX5_ofBoy_10 rfl (lv_at hl 2 rfl) ?_
    refine lv_if_ne (tgt := 23) hx hb dX5_ofBoy_11 (by decide) (fun c2 => ?_) (fun c2 => ?_)
    ·
      refine lv_iload_n hx hb dX5_ofBoy_23 rfl (lv_at hl 2 rfl) ?_
      refine lv_iconst (v := nI 1) hx hb dX5_ofBoy_24 (by decide) ?_
      refine lv_icmp_ne (tgt := 37) hx hb dX5_ofBoy_25 (by decide) (fun c3 => ?_) (fun c3 => ?_)
      ·
        refine lv_iload_n hx hb dX5_ofBoy_37 rfl (lv_at hl 2 rfl) ?_
        refine lv_iconst (v := nI 2) hx hb dX5_ofBoy_38 (by decide) ?_
        refine lv_icmp_ne (tgt := 50) hx hb dX5_ofBoy_39 (by decide) (fun c4 => ?_) (fun c4 => ?_)
        ·
          refine lv_bipush (v := (-2)) hx hb dX5_ofBoy_50 (by decide) ?_
          exact hret _ _ _ (by first | with_reducible rfl | simp only [s_ofBoy, iF_t c1, iF_f c2, iF_f c3, iF_f (show ¬ w = 1 from c3), iF_f c4, iF_f (show ¬ w = 2 from c4), tn_nI (show jb < 2 ^ 31 by omega)]) dX5_ofBoy_52
        ·
          refine lv_aload_n hx hb dX5_ofBoy_42 rfl (lv_at hl 0 rfl) ?_
          refine lv_iload_n hx hb dX5_ofBoy_43 rfl (lv_at hl 1 rfl) ?_
          refine rdV (As := [.int (nI jb)]) (rest := []) (ci := 5) (q0 := 0) hE (kX5_learns l G o ff ftr aso asl ace M B ape aki abo at_ rM rB arp ark arb fb fto R awh awn awm awk amo amu K jb (by first | omega | assumption | exact hU _ (by omega) | exact hz _ (by omega) | exact hK3 _ (by omega)) (by first | omega | assumption | exact hU _ (by omega) | exact hz _ (by omega) | exact hK3 _ (by omega))) (cwV 1 hts gX5_ofBoy_X5_learns rfl rfl rfl (by decide +kernel) ⟨Nat.le_of_ble_eq_true rfl, Nat.le_of_ble_eq_true rfl⟩) hP hK [0, 1] rfl rfl rfl rfl hl.1 rfl (Nat.le_of_ble_eq_true rfl) dX5_ofBoy_44 ⟨Nat.zero_le _, Nat.zero_le _⟩ ?_
          refine W.eq (g2 := F0 m 47 ls [.int (lrn (K jb))]) rfl ?_
          refine lv_goto (tgt := 52) hx hb dX5_ofBoy_47 (by decide) ?_
          exact hret _ _ _ (by first | with_reducible rfl | simp only [s_ofBoy, iF_t c1, iF_f c2, iF_f c3, iF_f (show ¬ w = 1 from c3), iF_t c4, iF_t (show w = 2 from c4), tn_nI (show jb < 2 ^ 31 by omega)]) dX5_ofBoy_52
      ·
        refine lv_aload_n hx hb dX5_ofBoy_28 rfl (lv_at hl 0 rfl) ?_
        refine g_get (v := .ref abo) hx hb hts ixX5_ofBoy_X5 hown hK hP 0 rfl rfl 9 (by decide) lkX5_ofBoy_25 rfl dX5_ofBoy_29 ?_
        refine lv_iload_n hx hb dX5_ofBoy_32 rfl (lv_at hl 1 rfl) ?_
        refine n_ald hx hb hK hP 2 rfl (k := jb) (by omega) (by decide) dX5_ofBoy_33 ?_
        refine lv_goto (tgt := 52) hx hb dX5_ofBoy_34 (by decide) ?_
        exact hret _ _ _ (by first | with_reducible rfl | simp only [s_ofBoy, iF_t c1, iF_f c2, iF_t c3, iF_t (show w = 1 from c3), tn_nI (show jb < 2 ^ 31 by omega)]) dX5_ofBoy_52
    ·
      refine lv_aload_n hx hb dX5_ofBoy_14 rfl (lv_at hl 0 rfl) ?_
      refine g_get (v := .ref aki) hx hb hts ixX5_ofBoy_X5 hown hK hP 0 rfl rfl 8 (by decide) lkX5_ofBoy_22 rfl dX5_ofBoy_15 ?_
      refine lv_iload_n hx hb dX5_ofBoy_18 rfl (lv_at hl 1 rfl) ?_
      refine n_ald hx hb hK hP 1 rfl (k := jb) (by omega) (by decide) dX5_ofBoy_19 ?_
      refine lv_goto (tgt := 52) hx hb dX5_ofBoy_20 (by decide) ?_
      exact hret _ _ _ (by first | with_reducible rfl | simp only [s_ofBoy, iF_t c1, iF_t c2, tn_nI (show jb < 2 ^ 31 by omega)]) dX5_ofBoy_52
  ·
    refine lv_iconst (v := (-1)) hx hb dX5_ofBoy_8 (by decide) ?_
    exact hret _ _ _ (by first | with_reducible rfl | simp only [s_ofBoy, iF_f c1]) dX5_ofBoy_9

theorem ixX5_owes_X5 : ∀ w ∈ wsX50, w ∈ wsX5_owes := fun _ h => List.mem_cons_of_mem _ (List.mem_append_right _ h)
theorem lkX5_owes_19 : Cond.fieldLink RX5 19 (TX5 7).1 (TX5 7).2.1 (TX5 7).2.2.1 ∈ wsX5_owes := List.mem_of_getElem? (i := 1) rfl
set_option maxHeartbeats 4000000 in
set_option maxRecDepth 100000 in
theorem kX5_owes (l : Launch) (G : Gl) (o : Nat) (ff : Int32) (ftr : Int32) (aso : Nat) (asl : Nat) (ace : Nat) (M : Nat) (B : Nat) (ape : Nat) (aki : Nat) (abo : Nat) (at_ : Int32) (rM : Int32) (rB : Int32) (arp : Nat) (ark : Nat) (arb : Nat) (fb : Int32) (fto : Int32) (R : Nat) (awh : Nat) (awn : Nat) (awm : Nat) (awk : Nat) (amo : Nat) (amu : Nat) (P : Nat → Int32) (a : Int32) (b : Int32) (hM : M ≤ 5) : Rd l G yX5_owes wsX5_owes ({ frames := 1, cells := 0, slots := 0, locals := 21 } : Room) [.ref o, .int a, .int b] [(o, .inr (5, [.int ff, .int ftr, .ref aso, .ref asl, .ref ace, .int (nI M), .int (nI B), .ref ape, .ref aki, .ref abo, .int at_, .int rM, .int rB, .ref arp, .ref ark, .ref arb, .int fb, .int fto, .int (nI R), .ref awh, .ref awn, .ref awm, .ref awk, .ref amo, .ref amu])), (ape, aI G 25 P)] (some (.int (s_owes M P a b))) := by
  refine Rd.ofI (cc := cX5_owes) (maxL := 3) (by decide) rfl (Nat.le_of_ble_eq_true rfl) ?_
  intro p e s m below meth c Q ls hE hP hK hl hret
  obtain ⟨hx, hb, hml, hown, hts⟩ := id hE
  have hl : lv_has ls 3 [(0, .ref o), (1, .int a), (2, .int b)] := hl
  refine lv_aload_n hx hb dX5_owes_0 rfl (lv_at hl 0 rfl) ?_
  refine lv_iload_n hx hb dX5_owes_1 rfl (lv_at hl 1 rfl) ?_
  refine rdV (As := [.int a]) (rest := []) (ci := 5) (q0 := 0) hE (kX5_isMaster l G o ff ftr aso asl ace M B ape aki abo at_ rM rB arp ark arb fb fto R awh awn awm awk amo amu a hM) (cwV 1 hts gX5_owes_X5_isMaster rfl rfl rfl (by decide +kernel) ⟨Nat.le_of_ble_eq_true rfl, Nat.le_of_ble_eq_true rfl⟩) hP hK [0] rfl rfl rfl rfl hl.1 rfl (Nat.le_of_ble_eq_true rfl) dX5_owes_2 ⟨Nat.zero_le _, Nat.zero_le _⟩ ?_
  refine W.eq (g2 := F0 m 5 ls [.int (bI (vp_in a M))]) rfl ?_
  refine bz_eq (tgt := 29) hx hb dX5_owes_5 (by decide) (fun c1 => ?_) (fun c1 => ?_)
  ·
    refine lv_iconst (v := (-1)) hx hb dX5_owes_29 (by decide) ?_
    exact hret _ _ _ (by first | with_reducible rfl | simp only [s_owes, iF_f c1]) dX5_owes_30
  ·
    obtain ⟨ja, hja, rfl⟩ := vp_in_of c1 (by omega)
    refine lv_aload_n hx hb dX5_owes_8 rfl (lv_at hl 0 rfl) ?_
    refine lv_iload_n hx hb dX5_owes_9 rfl (lv_at hl 2 rfl) ?_
    refine rdV (As := [.int b]) (rest := []) (ci := 5) (q0 := 0) hE (kX5_isMaster l G o ff ftr aso asl ace M B ape aki abo at_ rM rB arp ark arb fb fto R awh awn awm awk amo amu b hM) (cwV 1 hts gX5_owes_X5_isMaster rfl rfl rfl (by decide +kernel) ⟨Nat.le_of_ble_eq_true rfl, Nat.le_of_ble_eq_true rfl⟩) hP hK [0] rfl rfl rfl rfl hl.1 rfl (Nat.le_of_ble_eq_true rfl) dX5_owes_10 ⟨Nat.zero_le _, Nat.zero_le _⟩ ?_
    refine W.eq (g2 := F0 m 13 ls [.int (bI (vp_in b M))]) rfl ?_
    refine bz_eq (tgt := 29) hx hb dX5_owes_13 (by decide) (fun c2 => ?_) (fun c2 => ?_)
    ·
      refine lv_iconst (v := (-1)) hx hb dX5_owes_29 (by decide) ?_
      exact hret _ _ _ (by first | with_reducible rfl | simp only [s_owes, iF_t c1, iF_f c2, tn_nI (show ja < 2 ^ 31 by omega)]) dX5_owes_30
    ·
      obtain ⟨jb, hjb, rfl⟩ := vp_in_of c2 (by omega)
      refine lv_aload_n hx hb dX5_owes_16 rfl (lv_at hl 0 rfl) ?_
      refine g_get (v := .ref ape) hx hb hts ixX5_owes_X5 hown hK hP 0 rfl rfl 7 (by decide) lkX5_owes_19 rfl dX5_owes_17 ?_
      refine lv_iload_n hx hb dX5_owes_20 rfl (lv_at hl 1 rfl) ?_
      refine lv_iload_n hx hb dX5_owes_21 rfl (lv_at hl 2 rfl) ?_
      refine rdS (As := [.int (nI ja), .int (nI jb)]) (rest := [.ref ape]) hE (kX5_spot l G ja jb ) (va_cwS 2 hts gX5_owes_X5_spot rfl rfl rfl (by decide +kernel) ⟨Nat.le_of_ble_eq_true rfl, Nat.le_of_ble_eq_true rfl⟩) hP hK [] rfl rfl hl.1 rfl (Nat.le_of_ble_eq_true rfl) dX5_owes_22 ⟨Nat.zero_le _, Nat.zero_le _⟩ ?_
      refine W.eq (g2 := F0 m 25 ls [.int (nI (ja * 5 + jb)), .ref ape]) rfl ?_
      refine n_ald hx hb hK hP 1 rfl (k := ja * 5 + jb) (by omega) (by decide) dX5_owes_25 ?_
      refine lv_goto (tgt := 30) hx hb dX5_owes_26 (by decide) ?_
      exact hret _ _ _ (by first | with_reducible rfl | simp only [s_owes, iF_t c1, iF_t c2, tn_nI (show ja < 2 ^ 31 by omega), tn_nI (show jb < 2 ^ 31 by omega)]) dX5_owes_30

theorem ixX5_owe_X5 : ∀ w ∈ wsX50, w ∈ wsX5_owe := fun _ h => List.mem_cons_of_mem _ (List.mem_append_right _ h)
theorem lkX5_owe_19 : Cond.fieldLink RX5 19 (TX5 7).1 (TX5 7).2.1 (TX5 7).2.2.1 ∈ wsX5_owe := List.mem_of_getElem? (i := 1) rfl
set_option maxHeartbeats 4000000 in
set_option maxRecDepth 100000 in
theorem kX5_owe (l : Launch) (G : Gl) (o : Nat) (ff : Int32) (ftr : Int32) (aso : Nat) (asl : Nat) (ace : Nat) (M : Nat) (B : Nat) (ape : Nat) (aki : Nat) (abo : Nat) (at_ : Int32) (rM : Int32) (rB : Int32) (arp : Nat) (ark : Nat) (arb : Nat) (fb : Int32) (fto : Int32) (R : Nat) (awh : Nat) (awn : Nat) (awm : Nat) (awk : Nat) (amo : Nat) (amu : Nat) (P : Nat → Int32) (a : Int32) (b : Int32) (v : Int32) (hM : M ≤ 5) : Wt l G yX5_owe wsX5_owe ({ frames := 1, cells := 0, slots := 0, locals := 22 } : Room) [.ref o, .int a, .int b, .int v] [(o, .inr (5, [.int ff, .int ftr, .ref aso, .ref asl, .ref ace, .int (nI M), .int (nI B), .ref ape, .ref aki, .ref abo, .int at_, .int rM, .int rB, .ref arp, .ref ark, .ref arb, .int fb, .int fto, .int (nI R), .ref awh, .ref awn, .ref awm, .ref awk, .ref amo, .ref amu])), (ape, aI G 25 P)] [(o, .inr (5, [.int ff, .int ftr, .ref aso, .ref asl, .ref ace, .int (nI M), .int (nI B), .ref ape, .ref aki, .ref abo, .int at_, .int rM, .int rB, .ref arp, .ref ark, .ref arb, .int fb, .int fto, .int (nI R), .ref awh, .ref awn, .ref awm, .ref awk, .ref amo, .ref amu])), (ape, aI G 25 (w_owe M P a b v))] (some (.int (s_owe M P a b v))) := by
  refine Wt.ofI (cc := cX5_owe) (maxL := 5) (by decide) rfl (Nat.le_of_ble_eq_true rfl) ?_
  intro p e s m below meth c Q A ls hE hP hK hD hS hl hret
  obtain ⟨hx, hb, hml, hown, hts⟩ := id hE
  have hl : lv_has ls 5 [(0, .ref o), (1, .int a), (2, .int b), (3, .int v)] := hl
  refine lv_aload_n hx hb dX5_owe_0 rfl (lv_at hl 0 rfl) ?_
  refine lv_iload_n hx hb dX5_owe_1 rfl (lv_at hl 1 rfl) ?_
  refine rdV (As := [.int a]) (rest := []) (ci := 5) (q0 := 0) hE (kX5_isMaster l G o ff ftr aso asl ace M B ape aki abo at_ rM rB arp ark arb fb fto R awh awn awm awk amo amu a hM) (cwV 1 hts gX5_owe_X5_isMaster rfl rfl rfl (by decide +kernel) ⟨Nat.le_of_ble_eq_true rfl, Nat.le_of_ble_eq_true rfl⟩) hP hK [0] rfl rfl rfl rfl hl.1 rfl (Nat.le_of_ble_eq_true rfl) dX5_owe_2 ⟨Nat.zero_le _, Nat.zero_le _⟩ ?_
  refine W.eq (g2 := F0 m 5 ls [.int (bI (vp_in a M))]) rfl ?_
  refine bz_eq (tgt := 21) hx hb dX5_owe_5 (by decide) (fun c1 => ?_) (fun c1 => ?_)
  ·
    refine lv_iconst (v := (-1)) hx hb dX5_owe_21 (by decide) ?_
    exact hret _ _ _ _ _ (by first | with_reducible rfl | simp only [s_owe, w_owe, iF_f (show ¬ hd M a b from fun h => by obtain ⟨h0, h1, h2⟩ := h; first | contradiction | (exact h2 (by rw [c1])))]) (by first | exact hP | (simp only [s_owe, w_owe, iF_f (show ¬ hd M a b from fun h => by obtain ⟨h0, h1, h2⟩ := h; first | contradiction | (exact h2 (by rw [c1])))]; exact hP)) hS dX5_owe_22
  ·
    obtain ⟨ja, hja, rfl⟩ := vp_in_of c1 (by omega)
    refine lv_aload_n hx hb dX5_owe_8 rfl (lv_at hl 0 rfl) ?_
    refine lv_iload_n hx hb dX5_owe_9 rfl (lv_at hl 2 rfl) ?_
    refine rdV (As := [.int b]) (rest := []) (ci := 5) (q0 := 0) hE (kX5_isMaster l G o ff ftr aso asl ace M B ape aki abo at_ rM rB arp ark arb fb fto R awh awn awm awk amo amu b hM) (cwV 1 hts gX5_owe_X5_isMaster rfl rfl rfl (by decide +kernel) ⟨Nat.le_of_ble_eq_true rfl, Nat.le_of_ble_eq_true rfl⟩) hP hK [0] rfl rfl rfl rfl hl.1 rfl (Nat.le_of_ble_eq_true rfl) dX5_owe_10 ⟨Nat.zero_le _, Nat.zero_le _⟩ ?_
    refine W.eq (g2 := F0 m 13 ls [.int (bI (vp_in b M))]) rfl ?_
    refine bz_eq (tgt := 21) hx hb dX5_owe_13 (by decide) (fun c2 => ?_) (fun c2 => ?_)
    ·
      refine lv_iconst (v := (-1)) hx hb dX5_owe_21 (by decide) ?_
      exact hret _ _ _ _ _ (by first | with_reducible rfl | simp only [s_owe, w_owe, iF_f (show ¬ hd M (nI ja) b from fun h => by obtain ⟨h0, h1, h2⟩ := h; first | contradiction | (exact h2 (by rw [c2]))), tn_nI (show ja < 2 ^ 31 by omega)]) (by first | exact hP | (simp only [s_owe, w_owe, iF_f (show ¬ hd M (nI ja) b from fun h => by obtain ⟨h0, h1, h2⟩ := h; first | contradiction | (exact h2 (by rw [c2]))), tn_nI (show ja < 2 ^ 31 by omega)]; exact hP)) hS dX5_owe_22
    ·
      obtain ⟨jb, hjb, rfl⟩ := vp_in_of c2 (by omega)
      refine lv_iload_n hx hb dX5_owe_16 rfl (lv_at hl 1 rfl) ?_
      refine lv_iload_n hx hb dX5_owe_17 rfl (lv_at hl 2 rfl) ?_
      refine ic_ne (tgt := 23) hx hb (by omega) (by omega) dX5_owe_18 (by decide) (fun c3 => ?_) (fun c3 => ?_)
      ·
        refine lv_iload_n hx hb dX5_owe_23 rfl (lv_at hl 3 rfl) ?_
        refine lv_iconst (v := nI 0) hx hb dX5_owe_24 (by decide) ?_
        refine lv_bipush (v := nI 9) hx hb dX5_owe_25 (by decide) ?_
        refine rdS (As := [.int v, .int (nI 0), .int (nI 9)]) (rest := []) hE (kX5_within0 l G v 9 (by first | omega | assumption | exact hU _ (by omega) | exact hz _ (by omega) | exact hK3 _ (by omega))) (va_cwS 3 hts gX5_owe_X5_within rfl rfl rfl (by decide +kernel) ⟨Nat.le_of_ble_eq_true rfl, Nat.le_of_ble_eq_true rfl⟩) hP hK [] rfl rfl hl.1 rfl (Nat.le_of_ble_eq_true rfl) dX5_owe_27 ⟨Nat.zero_le _, Nat.zero_le _⟩ ?_
        refine W.eq (g2 := F0 m 30 ls [.int (bI (vp_in v (9 + 1)))]) rfl ?_
        refine bz_ne (tgt := 36) hx hb dX5_owe_30 (by decide) (fun c4 => ?_) (fun c4 => ?_)
        ·
          refine lv_aload_n hx hb dX5_owe_36 rfl (lv_at hl 0 rfl) ?_
          refine g_get (v := .ref ape) hx hb hts ixX5_owe_X5 hown hK hP 0 rfl rfl 7 (by decide) lkX5_owe_19 rfl dX5_owe_37 ?_
          refine lv_iload_n hx hb dX5_owe_40 rfl (lv_at hl 1 rfl) ?_
          refine lv_iload_n hx hb dX5_owe_41 rfl (lv_at hl 2 rfl) ?_
          refine rdS (As := [.int (nI ja), .int (nI jb)]) (rest := [.ref ape]) hE (kX5_spot l G ja jb ) (va_cwS 2 hts gX5_owe_X5_spot rfl rfl rfl (by decide +kernel) ⟨Nat.le_of_ble_eq_true rfl, Nat.le_of_ble_eq_true rfl⟩) hP hK [] rfl rfl hl.1 rfl (Nat.le_of_ble_eq_true rfl) dX5_owe_42 ⟨Nat.zero_le _, Nat.zero_le _⟩ ?_
          refine W.eq (g2 := F0 m 45 ls [.int (nI (ja * 5 + jb)), .ref ape]) rfl ?_
          refine n_ald hx hb hK hP 1 rfl (k := ja * 5 + jb) (by omega) (by decide) dX5_owe_45 ?_
          refine lv_istore (lv' := [(4, .int (P (ja * 5 + jb))), (0, .ref o), (1, .int (nI ja)), (2, .int (nI jb)), (3, .int v)]) hx hb dX5_owe_46 hl (by decide) rfl (fun ls hl => ?_)
          refine lv_aload_n hx hb dX5_owe_48 rfl (lv_at hl 1 rfl) ?_
          refine g_get (v := .ref ape) hx hb hts ixX5_owe_X5 hown hK hP 0 rfl rfl 7 (by decide) lkX5_owe_19 rfl dX5_owe_49 ?_
          refine lv_iload_n hx hb dX5_owe_52 rfl (lv_at hl 2 rfl) ?_
          refine lv_iload_n hx hb dX5_owe_53 rfl (lv_at hl 3 rfl) ?_
          refine rdS (As := [.int (nI ja), .int (nI jb)]) (rest := [.ref ape]) hE (kX5_spot l G ja jb ) (va_cwS 2 hts gX5_owe_X5_spot rfl rfl rfl (by decide +kernel) ⟨Nat.le_of_ble_eq_true rfl, Nat.le_of_ble_eq_true rfl⟩) hP hK [] rfl rfl hl.1 rfl (Nat.le_of_ble_eq_true rfl) dX5_owe_54 ⟨Nat.zero_le _, Nat.zero_le _⟩ ?_
          refine W.eq (g2 := F0 m 57 ls [.int (nI (ja * 5 + jb)), .ref ape]) rfl ?_
          refine lv_iload_n hx hb dX5_owe_57 rfl (lv_at hl 4 rfl) ?_
          refine n_ast hx hb hK hP hD hS 1 rfl (k := ja * 5 + jb) (by omega) (by decide) dX5_owe_58 (fun H locs hP hD hS => ?_)
          have hP : va_P G.1 vwCl [(o, .inr (5, [.int ff, .int ftr, .ref aso, .ref asl, .ref ace, .int (nI M), .int (nI B), .ref ape, .ref aki, .ref abo, .int at_, .int rM, .int rB, .ref arp, .ref ark, .ref arb, .int fb, .int fto, .int (nI R), .ref awh, .ref awn, .ref awm, .ref awk, .ref amo, .ref amu])), (ape, aI G 25 (upd P (ja * 5 + jb) v))] H := hP
          have hD : va_D A [(o, .inr (5, [.int ff, .int ftr, .ref aso, .ref asl, .ref ace, .int (nI M), .int (nI B), .ref ape, .ref aki, .ref abo, .int at_, .int rM, .int rB, .ref arp, .ref ark, .ref arb, .int fb, .int fto, .int (nI R), .ref awh, .ref awn, .ref awm, .ref awk, .ref amo, .ref amu])), (ape, aI G 25 (upd P (ja * 5 + jb) v))] := hD
          refine lv_iload hx hb dX5_owe_59 (lv_at hl 0 rfl) ?_
          exact hret _ _ _ _ _ (by first | with_reducible rfl | simp only [s_owe, w_owe, iF_t (show hd M (nI ja) (nI jb) from ⟨c1, c2, fun q => c3 ((nI_eq (by omega) (by omega)).mp q)⟩), iF_t c4, tn_nI (show ja < 2 ^ 31 by omega), tn_nI (show jb < 2 ^ 31 by omega)]) (by first | exact hP | (simp only [s_owe, w_owe, iF_t (show hd M (nI ja) (nI jb) from ⟨c1, c2, fun q => c3 ((nI_eq (by omega) (by omega)).mp q)⟩), iF_t c4, tn_nI (show ja < 2 ^ 31 by omega), tn_nI (show jb < 2 ^ 31 by omega)]; exact hP)) hS dX5_owe_61
        ·
          refine lv_bipush (v := (-2)) hx hb dX5_owe_33 (by decide) ?_
          exact hret _ _ _ _ _ (by first | with_reducible rfl | simp only [s_owe, w_owe, iF_t (show hd M (nI ja) (nI jb) from ⟨c1, c2, fun q => c3 ((nI_eq (by omega) (by omega)).mp q)⟩), iF_f c4, tn_nI (show ja < 2 ^ 31 by omega), tn_nI (show jb < 2 ^ 31 by omega)]) (by first | exact hP | (simp only [s_owe, w_owe, iF_t (show hd M (nI ja) (nI jb) from ⟨c1, c2, fun q => c3 ((nI_eq (by omega) (by omega)).mp q)⟩), iF_f c4, tn_nI (show ja < 2 ^ 31 by omega), tn_nI (show jb < 2 ^ 31 by omega)]; exact hP)) hS dX5_owe_35
      ·
        refine lv_iconst (v := (-1)) hx hb dX5_owe_21 (by decide) ?_
        exact hret _ _ _ _ _ (by first | with_reducible rfl | simp only [s_owe, w_owe, iF_f (show ¬ hd M (nI ja) (nI jb) from fun h => by obtain ⟨h0, h1, h2⟩ := h; first | contradiction | (exact h2 (by rw [c3]))), tn_nI (show ja < 2 ^ 31 by omega), tn_nI (show jb < 2 ^ 31 by omega)]) (by first | exact hP | (simp only [s_owe, w_owe, iF_f (show ¬ hd M (nI ja) (nI jb) from fun h => by obtain ⟨h0, h1, h2⟩ := h; first | contradiction | (exact h2 (by rw [c3]))), tn_nI (show ja < 2 ^ 31 by omega), tn_nI (show jb < 2 ^ 31 by omega)]; exact hP)) hS dX5_owe_22

theorem ixX5_bind_X5 : ∀ w ∈ wsX50, w ∈ wsX5_bind := fun _ h => List.mem_cons_of_mem _ (List.mem_append_right _ h)
theorem lkX5_bind_25 : Cond.fieldLink RX5 25 (TX5 9).1 (TX5 9).2.1 (TX5 9).2.2.1 ∈ wsX5_bind := List.mem_of_getElem? (i := 1) rfl
set_option maxHeartbeats 4000000 in
set_option maxRecDepth 100000 in
theorem kX5_bind (l : Launch) (G : Gl) (o : Nat) (ff : Int32) (ftr : Int32) (aso : Nat) (asl : Nat) (ace : Nat) (M : Nat) (B : Nat) (ape : Nat) (aki : Nat) (abo : Nat) (at_ : Int32) (rM : Int32) (rB : Int32) (arp : Nat) (ark : Nat) (arb : Nat) (fb : Int32) (fto : Int32) (R : Nat) (awh : Nat) (awn : Nat) (awm : Nat) (awk : Nat) (amo : Nat) (amu : Nat) (U : Nat → Int32) (b : Int32) (m0 : Int32) (hM : M ≤ 5) (hB : B ≤ 4) : Wt l G yX5_bind wsX5_bind ({ frames := 1, cells := 0, slots := 0, locals := 21 } : Room) [.ref o, .int b, .int m0] [(o, .inr (5, [.int ff, .int ftr, .ref aso, .ref asl, .ref ace, .int (nI M), .int (nI B), .ref ape, .ref aki, .ref abo, .int at_, .int rM, .int rB, .ref arp, .ref ark, .ref arb, .int fb, .int fto, .int (nI R), .ref awh, .ref awn, .ref awm, .ref awk, .ref amo, .ref amu])), (abo, aI G 4 U)] [(o, .inr (5, [.int ff, .int ftr, .ref aso, .ref asl, .ref ace, .int (nI M), .int (nI B), .ref ape, .ref aki, .ref abo, .int at_, .int rM, .int rB, .ref arp, .ref ark, .ref arb, .int fb, .int fto, .int (nI R), .ref awh, .ref awn, .ref awm, .ref awk, .ref amo, .ref amu])), (abo, aI G 4 (w_bind B M U b m0))] (some (.int (s_bind B M U b m0))) := by
  refine Wt.ofI (cc := cX5_bind) (maxL := 4) (by decide) rfl (Nat.le_of_ble_eq_true rfl) ?_
  intro p e s m below meth c Q A ls hE hP hK hD hS hl hret
  obtain ⟨hx, hb, hml, hown, hts⟩ := id hE
  have hl : lv_has ls 4 [(0, .ref o), (1, .int b), (2, .int m0)] := hl
  refine lv_aload_n hx hb dX5_bind_0 rfl (lv_at hl 0 rfl) ?_
  refine lv_iload_n hx hb dX5_bind_1 rfl (lv_at hl 1 rfl) ?_
  refine rdV (As := [.int b]) (rest := []) (ci := 5) (q0 := 0) hE (kX5_isBoy l G o ff ftr aso asl ace M B ape aki abo at_ rM rB arp ark arb fb fto R awh awn awm awk amo amu b hB) (cwV 1 hts gX5_bind_X5_isBoy rfl rfl rfl (by decide +kernel) ⟨Nat.le_of_ble_eq_true rfl, Nat.le_of_ble_eq_true rfl⟩) hP hK [0] rfl rfl rfl rfl hl.1 rfl (Nat.le_of_ble_eq_true rfl) dX5_bind_2 ⟨Nat.zero_le _, Nat.zero_le _⟩ ?_
  refine W.eq (g2 := F0 m 5 ls [.int (bI (vp_in b B))]) rfl ?_
  refine bz_eq (tgt := 16) hx hb dX5_bind_5 (by decide) (fun c1 => ?_) (fun c1 => ?_)
  ·
    refine lv_iconst (v := (-1)) hx hb dX5_bind_16 (by decide) ?_
    exact hret _ _ _ _ _ (by first | with_reducible rfl | simp only [s_bind, w_bind, iF_f c1]) (by first | exact hP | (simp only [s_bind, w_bind, iF_f c1]; exact hP)) hS dX5_bind_17
  ·
    obtain ⟨jb, hjb, rfl⟩ := vp_in_of c1 (by omega)
    refine lv_aload_n hx hb dX5_bind_8 rfl (lv_at hl 0 rfl) ?_
    refine lv_iload_n hx hb dX5_bind_9 rfl (lv_at hl 2 rfl) ?_
    refine rdV (As := [.int m0]) (rest := []) (ci := 5) (q0 := 0) hE (kX5_isMaster l G o ff ftr aso asl ace M B ape aki abo at_ rM rB arp ark arb fb fto R awh awn awm awk amo amu m0 hM) (cwV 1 hts gX5_bind_X5_isMaster rfl rfl rfl (by decide +kernel) ⟨Nat.le_of_ble_eq_true rfl, Nat.le_of_ble_eq_true rfl⟩) hP hK [0] rfl rfl rfl rfl hl.1 rfl (Nat.le_of_ble_eq_true rfl) dX5_bind_10 ⟨Nat.zero_le _, Nat.zero_le _⟩ ?_
    refine W.eq (g2 := F0 m 13 ls [.int (bI (vp_in m0 M))]) rfl ?_
    refine bz_ne (tgt := 18) hx hb dX5_bind_13 (by decide) (fun c2 => ?_) (fun c2 => ?_)
    ·
      refine lv_aload_n hx hb dX5_bind_18 rfl (lv_at hl 0 rfl) ?_
      refine g_get (v := .ref abo) hx hb hts ixX5_bind_X5 hown hK hP 0 rfl rfl 9 (by decide) lkX5_bind_25 rfl dX5_bind_19 ?_
      refine lv_iload_n hx hb dX5_bind_22 rfl (lv_at hl 1 rfl) ?_
      refine n_ald hx hb hK hP 1 rfl (k := jb) (by omega) (by decide) dX5_bind_23 ?_
      refine lv_istore_n (lv' := [(3, .int (U jb)), (0, .ref o), (1, .int (nI jb)), (2, .int m0)]) hx hb dX5_bind_24 rfl hl (by decide) rfl (fun ls hl => ?_)
      refine lv_aload_n hx hb dX5_bind_25 rfl (lv_at hl 1 rfl) ?_
      refine g_get (v := .ref abo) hx hb hts ixX5_bind_X5 hown hK hP 0 rfl rfl 9 (by decide) lkX5_bind_25 rfl dX5_bind_26 ?_
      refine lv_iload_n hx hb dX5_bind_29 rfl (lv_at hl 2 rfl) ?_
      refine lv_iload_n hx hb dX5_bind_30 rfl (lv_at hl 3 rfl) ?_
      refine n_ast hx hb hK hP hD hS 1 rfl (k := jb) (by omega) (by decide) dX5_bind_31 (fun H locs hP hD hS => ?_)
      have hP : va_P G.1 vwCl [(o, .inr (5, [.int ff, .int ftr, .ref aso, .ref asl, .ref ace, .int (nI M), .int (nI B), .ref ape, .ref aki, .ref abo, .int at_, .int rM, .int rB, .ref arp, .ref ark, .ref arb, .int fb, .int fto, .int (nI R), .ref awh, .ref awn, .ref awm, .ref awk, .ref amo, .ref amu])), (abo, aI G 4 (upd U jb m0))] H := hP
      have hD : va_D A [(o, .inr (5, [.int ff, .int ftr, .ref aso, .ref asl, .ref ace, .int (nI M), .int (nI B), .ref ape, .ref aki, .ref abo, .int at_, .int rM, .int rB, .ref arp, .ref ark, .ref arb, .int fb, .int fto, .int (nI R), .ref awh, .ref awn, .ref awm, .ref awk, .ref amo, .ref amu])), (abo, aI G 4 (upd U jb m0))] := hD
      refine lv_iload_n hx hb dX5_bind_32 rfl (lv_at hl 0 rfl) ?_
      exact hret _ _ _ _ _ (by first | with_reducible rfl | simp only [s_bind, w_bind, iF_t c1, iF_t c2, tn_nI (show jb < 2 ^ 31 by omega)]) (by first | exact hP | (simp only [s_bind, w_bind, iF_t c1, iF_t c2, tn_nI (show jb < 2 ^ 31 by omega)]; exact hP)) hS dX5_bind_33
    ·
      refine lv_iconst (v := (-1)) hx hb dX5_bind_16 (by decide) ?_
      exact hret _ _ _ _ _ (by first | with_reducible rfl | simp only [s_bind, w_bind, iF_t c1, iF_f c2, tn_nI (show jb < 2 ^ 31 by omega)]) (by first | exact hP | (simp only [s_bind, w_bind, iF_t c1, iF_f c2, tn_nI (show jb < 2 ^ 31 by omega)]; exact hP)) hS dX5_bind_17

theorem ixX5_nextOf_X5 : ∀ w ∈ wsX50, w ∈ wsX5_nextOf := fun _ h => List.mem_cons_of_mem _ (List.mem_append_right _ h)
theorem lkX5_nextOf_65 : Cond.fieldLink RX5 65 (TX5 5).1 (TX5 5).2.1 (TX5 5).2.2.1 ∈ wsX5_nextOf := List.mem_of_getElem? (i := 1) rfl
theorem lkX5_nextOf_19 : Cond.fieldLink RX5 19 (TX5 7).1 (TX5 7).2.1 (TX5 7).2.2.1 ∈ wsX5_nextOf := List.mem_of_getElem? (i := 2) rfl
set_option maxHeartbeats 4000000 in
set_option maxRecDepth 100000 in
theorem kX5_nextOf (l : Launch) (G : Gl) (o : Nat) (ff : Int32) (ftr : Int32) (aso : Nat) (asl : Nat) (ace : Nat) (M : Nat) (B : Nat) (ape : Nat) (aki : Nat) (abo : Nat) (at_ : Int32) (rM : Int32) (rB : Int32) (arp : Nat) (ark : Nat) (arb : Nat) (fb : Int32) (fto : Int32) (R : Nat) (awh : Nat) (awn : Nat) (awm : Nat) (awk : Nat) (amo : Nat) (amu : Nat) (P : Nat → Int32) (m0 : Nat) (hM : M ≤ 5) (hm : m0 < M) : Rd l G yX5_nextOf wsX5_nextOf ({ frames := 1, cells := 0, slots := 0, locals := 21 } : Room) [.ref o, .int (nI m0)] [(o, .inr (5, [.int ff, .int ftr, .ref aso, .ref asl, .ref ace, .int (nI M), .int (nI B), .ref ape, .ref aki, .ref abo, .int at_, .int rM, .int rB, .ref arp, .ref ark, .ref arb, .int fb, .int fto, .int (nI R), .ref awh, .ref awn, .ref awm, .ref awk, .ref amo, .ref amu])), (ape, aI G 25 P)] (some (.int (nI (nxt P M m0)))) := by
  refine Rd.ofI (cc := cX5_nextOf) (maxL := 4) (by decide) rfl (Nat.le_of_ble_eq_true rfl) ?_
  intro p e s m below meth c Q ls hE hP hK hl hret
  obtain ⟨hx, hb, hml, hown, hts⟩ := id hE
  have hl : lv_has ls 4 [(0, .ref o), (1, .int (nI m0))] := hl
  refine lv_iload_n hx hb dX5_nextOf_0 rfl (lv_at hl 1 rfl) ?_
  refine lv_istore_n (lv' := [(2, .int (nI m0)), (0, .ref o), (1, .int (nI m0))]) hx hb dX5_nextOf_1 rfl hl (by decide) rfl (fun ls hl => ?_)
  refine lv_iconst (v := nI 0) hx hb dX5_nextOf_2 (by decide) ?_
  refine lv_istore_n (lv' := [(3, .int (nI 0)), (2, .int (nI m0)), (0, .ref o), (1, .int (nI m0))]) hx hb dX5_nextOf_3 rfl hl (by decide) rfl (fun ls hl => ?_)
  have loop1 : ∀ (d k : Nat) (ls : Array Slot), M < k + d → k ≤ M → lv_has ls 4 [(3, .int (nI k)), (2, .int (nI (nx P m0 k))), (0, .ref o), (1, .int (nI m0))] → W p l e ({ frames := 1, cells := 0, slots := 0, locals := 21 } : Room) s m ([.ref o, .int (nI m0)] : List Value).toArray below meth c s.heap [] 0 0 Q (F0 m 4 ls []) := by
    intro d
    induction d with
    | zero =>
      intro k ls h1 h2
      omega
    | succ d ih1 =>
      intro k ls hdk hbk hl
      refine lv_iload_n hx hb dX5_nextOf_4 rfl (lv_at hl 0 rfl) ?_
      refine lv_aload_n hx hb dX5_nextOf_5 rfl (lv_at hl 2 rfl) ?_
      refine g_get (v := .int (nI M)) hx hb hts ixX5_nextOf_X5 hown hK hP 0 rfl rfl 5 (by decide) lkX5_nextOf_65 rfl dX5_nextOf_6 ?_
      refine ic_ge (tgt := 47) hx hb (by omega) (by omega) dX5_nextOf_9 (by decide) (fun c1 => ?_) (fun c1 => ?_)
      ·
        obtain rfl : M = k := by omega
        refine lv_iload_n hx hb dX5_nextOf_47 rfl (lv_at hl 1 rfl) ?_
        exact hret _ _ _ (rfl) dX5_nextOf_48
      ·
        have hnl := nx_lt (P := P) hm k (by omega)
        refine lv_aload_n hx hb dX5_nextOf_12 rfl (lv_at hl 2 rfl) ?_
        refine g_get (v := .ref ape) hx hb hts ixX5_nextOf_X5 hown hK hP 0 rfl rfl 7 (by decide) lkX5_nextOf_19 rfl dX5_nextOf_13 ?_
        refine lv_iload_n hx hb dX5_nextOf_16 rfl (lv_at hl 3 rfl) ?_
        refine lv_iload_n hx hb dX5_nextOf_17 rfl (lv_at hl 0 rfl) ?_
        refine rdS (As := [.int (nI m0), .int (nI k)]) (rest := [.ref ape]) hE (kX5_spot l G m0 k ) (va_cwS 2 hts gX5_nextOf_X5_spot rfl rfl rfl (by decide +kernel) ⟨Nat.le_of_ble_eq_true rfl, Nat.le_of_ble_eq_true rfl⟩) hP hK [] rfl rfl hl.1 rfl (Nat.le_of_ble_eq_true rfl) dX5_nextOf_18 ⟨Nat.zero_le _, Nat.zero_le _⟩ ?_
        refine W.eq (g2 := F0 m 21 ls [.int (nI (m0 * 5 + k)), .ref ape]) rfl ?_
        refine n_ald hx hb hK hP 1 rfl (k := m0 * 5 + k) (by omega) (by decide) dX5_nextOf_21 ?_
        refine lv_aload_n hx hb dX5_nextOf_22 rfl (lv_at hl 2 rfl) ?_
        refine g_get (v := .ref ape) hx hb hts ixX5_nextOf_X5 hown hK hP 0 rfl rfl 7 (by decide) lkX5_nextOf_19 rfl dX5_nextOf_23 ?_
        refine lv_iload_n hx hb dX5_nextOf_26 rfl (lv_at hl 3 rfl) ?_
        refine lv_iload_n hx hb dX5_nextOf_27 rfl (lv_at hl 1 rfl) ?_
        refine rdS (As := [.int (nI m0), .int (nI (nx P m0 k))]) (rest := [.ref ape, .int (P (m0 * 5 + k))]) hE (kX5_spot l G m0 (nx P m0 k) ) (va_cwS 2 hts gX5_nextOf_X5_spot rfl rfl rfl (by decide +kernel) ⟨Nat.le_of_ble_eq_true rfl, Nat.le_of_ble_eq_true rfl⟩) hP hK [] rfl rfl hl.1 rfl (Nat.le_of_ble_eq_true rfl) dX5_nextOf_28 ⟨Nat.zero_le _, Nat.zero_le _⟩ ?_
        refine W.eq (g2 := F0 m 31 ls [.int (nI (m0 * 5 + (nx P m0 k))), .ref ape, .int (P (m0 * 5 + k))]) rfl ?_
        refine n_ald hx hb hK hP 1 rfl (k := m0 * 5 + (nx P m0 k)) (by omega) (by decide) dX5_nextOf_31 ?_
        refine lv_icmp_le (tgt := 39) hx hb dX5_nextOf_32 (by decide) (fun c2 => ?_) (fun c2 => ?_)
        ·
          refine lv_iload_n hx hb dX5_nextOf_39 rfl (lv_at hl 1 rfl) ?_
          refine lv_istore_n (lv' := [(2, .int (nI (nx P m0 k))), (3, .int (nI k)), (0, .ref o), (1, .int (nI m0))]) hx hb dX5_nextOf_40 rfl hl (by decide) rfl (fun ls hl => ?_)
          refine lv_iinc (v := nI (k + 1)) (lv' := [(3, .int (nI (k + 1))), (2, .int (nI (nx P m0 k))), (0, .ref o), (1, .int (nI m0))]) hx hb dX5_nextOf_41 hl (k := 1) rfl (show nI k + Int32.ofInt 1 = nI (k + 1) from nI_add _ 1) (by decide) rfl (fun ls hl => ?_)
          refine lv_goto (tgt := 4) hx hb dX5_nextOf_44 (by decide) ?_
          have hl3 : lv_has ls 4 [(3, .int (nI (k + 1))), (2, .int (nI (nx P m0 (k + 1)))), (0, .ref o), (1, .int (nI m0))] := by
            rw [show (nI (nx P m0 (k + 1))) = (nI (nx P m0 k)) from by first | rfl | simp only [nx, iF_t c2, iF_f (i32_le c2)]]
            exact (lv_sub hl [0, 1, 2, 3] rfl)
          exact ih1 (k + 1) ls (by omega) (by omega) hl3
        ·
          refine lv_iload_n hx hb dX5_nextOf_35 rfl (lv_at hl 0 rfl) ?_
          refine lv_goto (tgt := 40) hx hb dX5_nextOf_36 (by decide) ?_
          refine lv_istore_n (lv' := [(2, .int (nI k)), (3, .int (nI k)), (0, .ref o), (1, .int (nI m0))]) hx hb dX5_nextOf_40 rfl hl (by decide) rfl (fun ls hl => ?_)
          refine lv_iinc (v := nI (k + 1)) (lv' := [(3, .int (nI (k + 1))), (2, .int (nI k)), (0, .ref o), (1, .int (nI m0))]) hx hb dX5_nextOf_41 hl (k := 1) rfl (show nI k + Int32.ofInt 1 = nI (k + 1) from nI_add _ 1) (by decide) rfl (fun ls hl => ?_)
          refine lv_goto (tgt := 4) hx hb dX5_nextOf_44 (by decide) ?_
          have hl4 : lv_has ls 4 [(3, .int (nI (k + 1))), (2, .int (nI (nx P m0 (k + 1)))), (0, .ref o), (1, .int (nI m0))] := by
            rw [show (nI (nx P m0 (k + 1))) = (nI k) from by first | rfl | simp only [nx, iF_f c2, iF_t (i32_nle c2)]]
            exact (lv_sub hl [0, 1, 2, 3] rfl)
          exact ih1 (k + 1) ls (by omega) (by omega) hl4
  have hl5 : lv_has ls 4 [(3, .int (nI 0)), (2, .int (nI (nx P m0 0))), (0, .ref o), (1, .int (nI m0))] := by
    rw [show (nI (nx P m0 0)) = (nI m0) from by first | rfl | simp only [nx]]
    exact (lv_sub hl [0, 1, 2, 3] rfl)
  exact loop1 (M + 1) 0 ls (by omega) (by omega) hl5

set_option maxHeartbeats 4000000 in
set_option maxRecDepth 100000 in
theorem kX5_next (l : Launch) (G : Gl) (o : Nat) (ff : Int32) (ftr : Int32) (aso : Nat) (asl : Nat) (ace : Nat) (M : Nat) (B : Nat) (ape : Nat) (aki : Nat) (abo : Nat) (at_ : Int32) (rM : Int32) (rB : Int32) (arp : Nat) (ark : Nat) (arb : Nat) (fb : Int32) (fto : Int32) (R : Nat) (awh : Nat) (awn : Nat) (awm : Nat) (awk : Nat) (amo : Nat) (amu : Nat) (P : Nat → Int32) (m0 : Int32) (hM : M ≤ 5) : Rd l G yX5_next wsX5_next ({ frames := 2, cells := 0, slots := 0, locals := 44 } : Room) [.ref o, .int m0] [(o, .inr (5, [.int ff, .int ftr, .ref aso, .ref asl, .ref ace, .int (nI M), .int (nI B), .ref ape, .ref aki, .ref abo, .int at_, .int rM, .int rB, .ref arp, .ref ark, .ref arb, .int fb, .int fto, .int (nI R), .ref awh, .ref awn, .ref awm, .ref awk, .ref amo, .ref amu])), (ape, aI G 25 P)] (some (.int (s_next M P m0))) := by
  refine Rd.ofI (cc := cX5_next) (maxL := 2) (by decide) rfl (Nat.le_of_ble_eq_true rfl) ?_
  intro p e s m below meth c Q ls hE hP hK hl hret
  obtain ⟨hx, hb, hml, hown, hts⟩ := id hE
  have hl : lv_has ls 2 [(0, .ref o), (1, .int m0)] := hl
  refine lv_aload_n hx hb dX5_next_0 rfl (lv_at hl 0 rfl) ?_
  refine lv_iload_n hx hb dX5_next_1 rfl (lv_at hl 1 rfl) ?_
  refine rdV (As := [.int m0]) (rest := []) (ci := 5) (q0 := 0) hE (kX5_isMaster l G o ff ftr aso asl ace M B ape aki abo at_ rM rB arp ark arb fb fto R awh awn awm awk amo amu m0 hM) (cwV 1 hts gX5_next_X5_isMaster rfl rfl rfl (by decide +kernel) ⟨Nat.le_of_ble_eq_true rfl, Nat.le_of_ble_eq_true rfl⟩) hP hK [0] rfl rfl rfl rfl hl.1 rfl (Nat.le_of_ble_eq_true rfl) dX5_next_2 ⟨Nat.zero_le _, Nat.zero_le _⟩ ?_
  refine W.eq (g2 := F0 m 5 ls [.int (bI (vp_in m0 M))]) rfl ?_
  refine bz_eq (tgt := 16) hx hb dX5_next_5 (by decide) (fun c1 => ?_) (fun c1 => ?_)
  ·
    refine lv_iconst (v := (-1)) hx hb dX5_next_16 (by decide) ?_
    exact hret _ _ _ (by first | with_reducible rfl | simp only [s_next, iF_f c1]) dX5_next_17
  ·
    obtain ⟨jm0, hjm0, rfl⟩ := vp_in_of c1 (by omega)
    refine lv_aload_n hx hb dX5_next_8 rfl (lv_at hl 0 rfl) ?_
    refine lv_iload_n hx hb dX5_next_9 rfl (lv_at hl 1 rfl) ?_
    refine rdV (As := [.int (nI jm0)]) (rest := []) (ci := 5) (q0 := 0) hE (kX5_nextOf l G o ff ftr aso asl ace M B ape aki abo at_ rM rB arp ark arb fb fto R awh awn awm awk amo amu P jm0 hM hjm0) (cwV 1 hts gX5_next_X5_nextOf rfl rfl rfl (by decide +kernel) ⟨Nat.le_of_ble_eq_true rfl, Nat.le_of_ble_eq_true rfl⟩) hP hK [0, 1] rfl rfl rfl rfl hl.1 rfl (Nat.le_of_ble_eq_true rfl) dX5_next_10 ⟨Nat.zero_le _, Nat.zero_le _⟩ ?_
    refine W.eq (g2 := F0 m 13 ls [.int (nI (nxt P M jm0))]) rfl ?_
    refine lv_goto (tgt := 17) hx hb dX5_next_13 (by decide) ?_
    exact hret _ _ _ (by first | with_reducible rfl | simp only [s_next, iF_t c1, tn_nI (show jm0 < 2 ^ 31 by omega)]) dX5_next_17

theorem ixX5_whereOf_X5 : ∀ w ∈ wsX50, w ∈ wsX5_whereOf := fun _ h => List.mem_cons_of_mem _ (List.mem_append_right _ h)
theorem lkX5_whereOf_25 : Cond.fieldLink RX5 25 (TX5 9).1 (TX5 9).2.1 (TX5 9).2.2.1 ∈ wsX5_whereOf := List.mem_of_getElem? (i := 1) rfl
set_option maxHeartbeats 4000000 in
set_option maxRecDepth 100000 in
theorem kX5_whereOf (l : Launch) (G : Gl) (o : Nat) (ff : Int32) (ftr : Int32) (aso : Nat) (asl : Nat) (ace : Nat) (M : Nat) (B : Nat) (ape : Nat) (aki : Nat) (abo : Nat) (at_ : Int32) (rM : Int32) (rB : Int32) (arp : Nat) (ark : Nat) (arb : Nat) (fb : Int32) (fto : Int32) (R : Nat) (awh : Nat) (awn : Nat) (awm : Nat) (awk : Nat) (amo : Nat) (amu : Nat) (P : Nat → Int32) (U : Nat → Int32) (b : Nat) (n : Nat) (hM : M ≤ 5) (hb4 : b < 4) (hu : vp_in (U b) M) (hn : n ≤ 60) : Rd l G yX5_whereOf wsX5_whereOf ({ frames := 2, cells := 0, slots := 0, locals := 44 } : Room) [.ref o, .int (nI b), .int (nI n)] [(o, .inr (5, [.int ff, .int ftr, .ref aso, .ref asl, .ref ace, .int (nI M), .int (nI B), .ref ape, .ref aki, .ref abo, .int at_, .int rM, .int rB, .ref arp, .ref ark, .ref arb, .int fb, .int fto, .int (nI R), .ref awh, .ref awn, .ref awm, .ref awk, .ref amo, .ref amu])), (ape, aI G 25 P), (abo, aI G 4 U)] (some (.int (nI (wh P M (tn (U b)) n)))) := by
  refine Rd.ofI (cc := cX5_whereOf) (maxL := 5) (by decide) rfl (Nat.le_of_ble_eq_true rfl) ?_
  intro p e s m below meth c Q ls hE hP hK hl hret
  obtain ⟨hx, hb, hml, hown, hts⟩ := id hE
  have hl : lv_has ls 5 [(0, .ref o), (1, .int (nI b)), (2, .int (nI n))] := hl
  refine lv_aload_n hx hb dX5_whereOf_0 rfl (lv_at hl 0 rfl) ?_
  refine g_get (v := .ref abo) hx hb hts ixX5_whereOf_X5 hown hK hP 0 rfl rfl 9 (by decide) lkX5_whereOf_25 rfl dX5_whereOf_1 ?_
  refine lv_iload_n hx hb dX5_whereOf_4 rfl (lv_at hl 1 rfl) ?_
  refine n_ald hx hb hK hP 2 rfl (k := b) (by omega) (by decide) dX5_whereOf_5 ?_
  refine lv_tope (show U b = nI (tn (U b)) from tn_of hu (by omega)) ?_
  refine lv_istore_n (lv' := [(3, .int (nI (tn (U b)))), (0, .ref o), (1, .int (nI b)), (2, .int (nI n))]) hx hb dX5_whereOf_6 rfl hl (by decide) rfl (fun ls hl => ?_)
  refine lv_iconst (v := nI 0) hx hb dX5_whereOf_7 (by decide) ?_
  refine lv_istore (lv' := [(4, .int (nI 0)), (3, .int (nI (tn (U b)))), (0, .ref o), (1, .int (nI b)), (2, .int (nI n))]) hx hb dX5_whereOf_8 hl (by decide) rfl (fun ls hl => ?_)
  have loop1 : ∀ (d k : Nat) (ls : Array Slot), n < k + d → k ≤ n → lv_has ls 5 [(4, .int (nI k)), (3, .int (nI (wh P M (tn (U b)) k))), (0, .ref o), (1, .int (nI b)), (2, .int (nI n))] → W p l e ({ frames := 2, cells := 0, slots := 0, locals := 44 } : Room) s m ([.ref o, .int (nI b), .int (nI n)] : List Value).toArray below meth c s.heap [] 0 0 Q (F0 m 10 ls []) := by
    intro d
    induction d with
    | zero =>
      intro k ls h1 h2
      omega
    | succ d ih1 =>
      intro k ls hdk hbk hl
      refine lv_iload hx hb dX5_whereOf_10 (lv_at hl 0 rfl) ?_
      refine lv_iload_n hx hb dX5_whereOf_12 rfl (lv_at hl 4 rfl) ?_
      refine ic_ge (tgt := 28) hx hb (by omega) (by omega) dX5_whereOf_13 (by decide) (fun c1 => ?_) (fun c1 => ?_)
      ·
        obtain rfl : n = k := by omega
        refine lv_iload_n hx hb dX5_whereOf_28 rfl (lv_at hl 1 rfl) ?_
        exact hret _ _ _ (by first | with_reducible rfl | simp only []) dX5_whereOf_29
      ·
        refine lv_aload_n hx hb dX5_whereOf_16 rfl (lv_at hl 2 rfl) ?_
        refine lv_iload_n hx hb dX5_whereOf_17 rfl (lv_at hl 1 rfl) ?_
        refine rdV (As := [.int (nI (wh P M (tn (U b)) k))]) (rest := []) (ci := 5) (q0 := 0) hE (kX5_nextOf l G o ff ftr aso asl ace M B ape aki abo at_ rM rB arp ark arb fb fto R awh awn awm awk amo amu P (wh P M (tn (U b)) k) hM (wh_lt (tn_lt hu (by omega)) k)) (cwV 1 hts gX5_whereOf_X5_nextOf rfl rfl rfl (by decide +kernel) ⟨Nat.le_of_ble_eq_true rfl, Nat.le_of_ble_eq_true rfl⟩) hP hK [0, 1] rfl rfl rfl rfl hl.1 rfl (Nat.le_of_ble_eq_true rfl) dX5_whereOf_18 ⟨Nat.zero_le _, Nat.zero_le _⟩ ?_
        refine W.eq (g2 := F0 m 21 ls [.int (nI (nxt P M (wh P M (tn (U b)) k)))]) rfl ?_
        refine lv_istore_n (lv' := [(3, .int (nI (nxt P M (wh P M (tn (U b)) k)))), (4, .int (nI k)), (0, .ref o), (1, .int (nI b)), (2, .int (nI n))]) hx hb dX5_whereOf_21 rfl hl (by decide) rfl (fun ls hl => ?_)
        refine lv_iinc (v := nI (k + 1)) (lv' := [(4, .int (nI (k + 1))), (3, .int (nI (nxt P M (wh P M (tn (U b)) k)))), (0, .ref o), (1, .int (nI b)), (2, .int (nI n))]) hx hb dX5_whereOf_22 hl (k := 1) rfl (show nI k + Int32.ofInt 1 = nI (k + 1) from nI_add _ 1) (by decide) rfl (fun ls hl => ?_)
        refine lv_goto (tgt := 10) hx hb dX5_whereOf_25 (by decide) ?_
        have hl2 : lv_has ls 5 [(4, .int (nI (k + 1))), (3, .int (nI (wh P M (tn (U b)) (k + 1)))), (0, .ref o), (1, .int (nI b)), (2, .int (nI n))] := by
          rw [show (nI (wh P M (tn (U b)) (k + 1))) = (nI (nxt P M (wh P M (tn (U b)) k))) from by first | rfl | simp only [wh]]
          exact (lv_sub hl [0, 1, 2, 3, 4] rfl)
        exact ih1 (k + 1) ls (by omega) (by omega) hl2
  have hl3 : lv_has ls 5 [(4, .int (nI 0)), (3, .int (nI (wh P M (tn (U b)) 0))), (0, .ref o), (1, .int (nI b)), (2, .int (nI n))] := by
    rw [show (nI (wh P M (tn (U b)) 0)) = (nI (tn (U b))) from by first | rfl | simp only [wh]]
    exact (lv_sub hl [0, 1, 2, 3, 4] rfl)
  exact loop1 (n + 1) 0 ls (by omega) (by omega) hl3

theorem ixX5_knowsOf_X5 : ∀ w ∈ wsX50, w ∈ wsX5_knowsOf := fun _ h => List.mem_cons_of_mem _ (List.mem_append_right _ h)
theorem lkX5_knowsOf_25 : Cond.fieldLink RX5 25 (TX5 9).1 (TX5 9).2.1 (TX5 9).2.2.1 ∈ wsX5_knowsOf := List.mem_of_getElem? (i := 1) rfl
set_option maxHeartbeats 4000000 in
set_option maxRecDepth 100000 in
theorem kX5_knowsOf (l : Launch) (G : Gl) (o : Nat) (ff : Int32) (ftr : Int32) (aso : Nat) (asl : Nat) (ace : Nat) (M : Nat) (B : Nat) (ape : Nat) (aki : Nat) (abo : Nat) (at_ : Int32) (rM : Int32) (rB : Int32) (arp : Nat) (ark : Nat) (arb : Nat) (fb : Int32) (fto : Int32) (R : Nat) (awh : Nat) (awn : Nat) (awm : Nat) (awk : Nat) (amo : Nat) (amu : Nat) (P : Nat → Int32) (K : Nat → Int32) (U : Nat → Int32) (b : Nat) (tr : Nat) (n : Nat) (hM : M ≤ 5) (hb4 : b < 4) (hu : vp_in (U b) M) (hk : kd (K b)) (htr : tr < M) (hn : n ≤ 60) : Rd l G yX5_knowsOf wsX5_knowsOf ({ frames := 2, cells := 0, slots := 0, locals := 44 } : Room) [.ref o, .int (nI b), .int (nI tr), .int (nI n)] [(o, .inr (5, [.int ff, .int ftr, .ref aso, .ref asl, .ref ace, .int (nI M), .int (nI B), .ref ape, .ref aki, .ref abo, .int at_, .int rM, .int rB, .ref arp, .ref ark, .ref arb, .int fb, .int fto, .int (nI R), .ref awh, .ref awn, .ref awm, .ref awk, .ref amo, .ref amu])), (ape, aI G 25 P), (aki, aI G 4 K), (abo, aI G 4 U)] (some (.int (kn P M tr (lrn (K b)) (tn (U b)) n))) := by
  refine Rd.ofI (cc := cX5_knowsOf) (maxL := 7) (by decide) rfl (Nat.le_of_ble_eq_true rfl) ?_
  intro p e s m below meth c Q ls hE hP hK hl hret
  obtain ⟨hx, hb, hml, hown, hts⟩ := id hE
  have hl : lv_has ls 7 [(0, .ref o), (1, .int (nI b)), (2, .int (nI tr)), (3, .int (nI n))] := hl
  refine lv_aload_n hx hb dX5_knowsOf_0 rfl (lv_at hl 0 rfl) ?_
  refine g_get (v := .ref abo) hx hb hts ixX5_knowsOf_X5 hown hK hP 0 rfl rfl 9 (by decide) lkX5_knowsOf_25 rfl dX5_knowsOf_1 ?_
  refine lv_iload_n hx hb dX5_knowsOf_4 rfl (lv_at hl 1 rfl) ?_
  refine n_ald hx hb hK hP 3 rfl (k := b) (by omega) (by decide) dX5_knowsOf_5 ?_
  refine lv_tope (show U b = nI (tn (U b)) from tn_of hu (by omega)) ?_
  refine lv_istore (lv' := [(4, .int (nI (tn (U b)))), (0, .ref o), (1, .int (nI b)), (2, .int (nI tr)), (3, .int (nI n))]) hx hb dX5_knowsOf_6 hl (by decide) rfl (fun ls hl => ?_)
  refine lv_iconst (v := nI 0) hx hb dX5_knowsOf_8 (by decide) ?_
  refine lv_istore (lv' := [(5, .int (nI 0)), (4, .int (nI (tn (U b)))), (0, .ref o), (1, .int (nI b)), (2, .int (nI tr)), (3, .int (nI n))]) hx hb dX5_knowsOf_9 hl (by decide) rfl (fun ls hl => ?_)
  refine lv_iconst (v := nI 0) hx hb dX5_knowsOf_11 (by decide) ?_
  refine lv_istore (lv' := [(6, .int (nI 0)), (5, .int (nI 0)), (4, .int (nI (tn (U b)))), (0, .ref o), (1, .int (nI b)), (2, .int (nI tr)), (3, .int (nI n))]) hx hb dX5_knowsOf_12 hl (by decide) rfl (fun ls hl => ?_)
  have loop1 : ∀ (d k : Nat) (ls : Array Slot), n < k + d → k ≤ n → lv_has ls 7 [(6, .int (nI k)), (5, .int (kn P M tr (lrn (K b)) (tn (U b)) k)), (4, .int (nI (wh P M (tn (U b)) k))), (0, .ref o), (1, .int (nI b)), (2, .int (nI tr)), (3, .int (nI n))] → W p l e ({ frames := 2, cells := 0, slots := 0, locals := 44 } : Room) s m ([.ref o, .int (nI b), .int (nI tr), .int (nI n)] : List Value).toArray below meth c s.heap [] 0 0 Q (F0 m 14 ls []) := by
    intro d
    induction d with
    | zero =>
      intro k ls h1 h2
      omega
    | succ d ih1 =>
      intro k ls hdk hbk hl
      refine lv_iload hx hb dX5_knowsOf_14 (lv_at hl 0 rfl) ?_
      refine lv_iload_n hx hb dX5_knowsOf_16 rfl (lv_at hl 6 rfl) ?_
      refine ic_ge (tgt := 63) hx hb (by omega) (by omega) dX5_knowsOf_17 (by decide) (fun c1 => ?_) (fun c1 => ?_)
      ·
        obtain rfl : n = k := by omega
        refine lv_iload hx hb dX5_knowsOf_63 (lv_at hl 1 rfl) ?_
        exact hret _ _ _ (by first | with_reducible rfl | simp only []) dX5_knowsOf_65
      ·
        have hwk := wh_lt (P := P) (tn_lt hu (by omega)) k
        refine lv_iload hx hb dX5_knowsOf_20 (lv_at hl 1 rfl) ?_
        refine lv_iload hx hb dX5_knowsOf_22 (lv_at hl 1 rfl) ?_
        refine lv_iconst (v := nI 3) hx hb dX5_knowsOf_24 (by decide) ?_
        refine lv_idiv hx hb dX5_knowsOf_25 (by decide) ?_
        refine lv_isub hx hb dX5_knowsOf_26 ?_
        refine lv_istore (lv' := [(5, .int ((kn P M tr (lrn (K b)) (tn (U b)) k) - ((kn P M tr (lrn (K b)) (tn (U b)) k) / (nI 3)))), (6, .int (nI k)), (4, .int (nI (wh P M (tn (U b)) k))), (0, .ref o), (1, .int (nI b)), (2, .int (nI tr)), (3, .int (nI n))]) hx hb dX5_knowsOf_27 hl (by decide) rfl (fun ls hl => ?_)
        refine lv_iload hx hb dX5_knowsOf_29 (lv_at hl 0 rfl) ?_
        refine lv_iload hx hb dX5_knowsOf_31 (lv_at hl 2 rfl) ?_
        refine lv_iload_n hx hb dX5_knowsOf_33 rfl (lv_at hl 5 rfl) ?_
        refine ic_ne (tgt := 45) hx hb (by omega) (by omega) dX5_knowsOf_34 (by decide) (fun c2 => ?_) (fun c2 => ?_)
        ·
          refine lv_iconst (v := nI 0) hx hb dX5_knowsOf_45 (by decide) ?_
          refine lv_iadd hx hb dX5_knowsOf_46 ?_
          refine lv_istore (lv' := [(5, .int (((kn P M tr (lrn (K b)) (tn (U b)) k) - ((kn P M tr (lrn (K b)) (tn (U b)) k) / (nI 3))) + (nI 0))), (6, .int (nI k)), (4, .int (nI (wh P M (tn (U b)) k))), (0, .ref o), (1, .int (nI b)), (2, .int (nI tr)), (3, .int (nI n))]) hx hb dX5_knowsOf_47 hl (by decide) rfl (fun ls hl => ?_)
          refine lv_aload_n hx hb dX5_knowsOf_49 rfl (lv_at hl 3 rfl) ?_
          refine lv_iload hx hb dX5_knowsOf_50 (lv_at hl 2 rfl) ?_
          refine rdV (As := [.int (nI (wh P M (tn (U b)) k))]) (rest := []) (ci := 5) (q0 := 0) hE (kX5_nextOf l G o ff ftr aso asl ace M B ape aki abo at_ rM rB arp ark arb fb fto R awh awn awm awk amo amu P (wh P M (tn (U b)) k) hM hwk) (cwV 1 hts gX5_knowsOf_X5_nextOf rfl rfl rfl (by decide +kernel) ⟨Nat.le_of_ble_eq_true rfl, Nat.le_of_ble_eq_true rfl⟩) hP hK [0, 1] rfl rfl rfl rfl hl.1 rfl (Nat.le_of_ble_eq_true rfl) dX5_knowsOf_52 ⟨Nat.zero_le _, Nat.zero_le _⟩ ?_
          refine W.eq (g2 := F0 m 55 ls [.int (nI (nxt P M (wh P M (tn (U b)) k)))]) rfl ?_
          refine lv_istore (lv' := [(4, .int (nI (nxt P M (wh P M (tn (U b)) k)))), (5, .int (((kn P M tr (lrn (K b)) (tn (U b)) k) - ((kn P M tr (lrn (K b)) (tn (U b)) k) / (nI 3))) + (nI 0))), (6, .int (nI k)), (0, .ref o), (1, .int (nI b)), (2, .int (nI tr)), (3, .int (nI n))]) hx hb dX5_knowsOf_55 hl (by decide) rfl (fun ls hl => ?_)
          refine lv_iinc (v := nI (k + 1)) (lv' := [(6, .int (nI (k + 1))), (4, .int (nI (nxt P M (wh P M (tn (U b)) k)))), (5, .int (((kn P M tr (lrn (K b)) (tn (U b)) k) - ((kn P M tr (lrn (K b)) (tn (U b)) k) / (nI 3))) + (nI 0))), (0, .ref o), (1, .int (nI b)), (2, .int (nI tr)), (3, .int (nI n))]) hx hb dX5_knowsOf_57 hl (k := 2) rfl (show nI k + Int32.ofInt 1 = nI (k + 1) from nI_add _ 1) (by decide) rfl (fun ls hl => ?_)
          refine lv_goto (tgt := 14) hx hb dX5_knowsOf_60 (by decide) ?_
          have hl3 : lv_has ls 7 [(6, .int (nI (k + 1))), (5, .int (kn P M tr (lrn (K b)) (tn (U b)) (k + 1))), (4, .int (nI (wh P M (tn (U b)) (k + 1)))), (0, .ref o), (1, .int (nI b)), (2, .int (nI tr)), (3, .int (nI n))] := by
            rw [show (kn P M tr (lrn (K b)) (tn (U b)) (k + 1)) = (((kn P M tr (lrn (K b)) (tn (U b)) k) - ((kn P M tr (lrn (K b)) (tn (U b)) k) / (nI 3))) + (nI 0)) from by first | rfl | simp only [kn, wh, add0, iF_f c2]]
            rw [show (nI (wh P M (tn (U b)) (k + 1))) = (nI (nxt P M (wh P M (tn (U b)) k))) from by first | rfl | simp only [kn, wh, add0, iF_f c2]]
            exact (lv_sub hl [0, 2, 1, 3, 4, 5, 6] rfl)
          exact ih1 (k + 1) ls (by omega) (by omega) hl3
        ·
          refine lv_aload_n hx hb dX5_knowsOf_37 rfl (lv_at hl 3 rfl) ?_
          refine lv_iload_n hx hb dX5_knowsOf_38 rfl (lv_at hl 4 rfl) ?_
          refine rdV (As := [.int (nI b)]) (rest := [.int ((kn P M tr (lrn (K b)) (tn (U b)) k) - ((kn P M tr (lrn (K b)) (tn (U b)) k) / (nI 3)))]) (ci := 5) (q0 := 0) hE (kX5_learns l G o ff ftr aso asl ace M B ape aki abo at_ rM rB arp ark arb fb fto R awh awn awm awk amo amu K b hb4 hk) (cwV 1 hts gX5_knowsOf_X5_learns rfl rfl rfl (by decide +kernel) ⟨Nat.le_of_ble_eq_true rfl, Nat.le_of_ble_eq_true rfl⟩) hP hK [0, 2] rfl rfl rfl rfl hl.1 rfl (Nat.le_of_ble_eq_true rfl) dX5_knowsOf_39 ⟨Nat.zero_le _, Nat.zero_le _⟩ ?_
          refine W.eq (g2 := F0 m 42 ls [.int (lrn (K b)), .int ((kn P M tr (lrn (K b)) (tn (U b)) k) - ((kn P M tr (lrn (K b)) (tn (U b)) k) / (nI 3)))]) rfl ?_
          refine lv_goto (tgt := 46) hx hb dX5_knowsOf_42 (by decide) ?_
          refine lv_iadd hx hb dX5_knowsOf_46 ?_
          refine lv_istore (lv' := [(5, .int (((kn P M tr (lrn (K b)) (tn (U b)) k) - ((kn P M tr (lrn (K b)) (tn (U b)) k) / (nI 3))) + (lrn (K b)))), (6, .int (nI k)), (4, .int (nI (wh P M (tn (U b)) k))), (0, .ref o), (1, .int (nI b)), (2, .int (nI tr)), (3, .int (nI n))]) hx hb dX5_knowsOf_47 hl (by decide) rfl (fun ls hl => ?_)
          refine lv_aload_n hx hb dX5_knowsOf_49 rfl (lv_at hl 3 rfl) ?_
          refine lv_iload hx hb dX5_knowsOf_50 (lv_at hl 2 rfl) ?_
          refine rdV (As := [.int (nI (wh P M (tn (U b)) k))]) (rest := []) (ci := 5) (q0 := 0) hE (kX5_nextOf l G o ff ftr aso asl ace M B ape aki abo at_ rM rB arp ark arb fb fto R awh awn awm awk amo amu P (wh P M (tn (U b)) k) hM hwk) (cwV 1 hts gX5_knowsOf_X5_nextOf rfl rfl rfl (by decide +kernel) ⟨Nat.le_of_ble_eq_true rfl, Nat.le_of_ble_eq_true rfl⟩) hP hK [0, 1] rfl rfl rfl rfl hl.1 rfl (Nat.le_of_ble_eq_true rfl) dX5_knowsOf_52 ⟨Nat.zero_le _, Nat.zero_le _⟩ ?_
          refine W.eq (g2 := F0 m 55 ls [.int (nI (nxt P M (wh P M (tn (U b)) k)))]) rfl ?_
          refine lv_istore (lv' := [(4, .int (nI (nxt P M (wh P M (tn (U b)) k)))), (5, .int (((kn P M tr (lrn (K b)) (tn (U b)) k) - ((kn P M tr (lrn (K b)) (tn (U b)) k) / (nI 3))) + (lrn (K b)))), (6, .int (nI k)), (0, .ref o), (1, .int (nI b)), (2, .int (nI tr)), (3, .int (nI n))]) hx hb dX5_knowsOf_55 hl (by decide) rfl (fun ls hl => ?_)
          refine lv_iinc (v := nI (k + 1)) (lv' := [(6, .int (nI (k + 1))), (4, .int (nI (nxt P M (wh P M (tn (U b)) k)))), (5, .int (((kn P M tr (lrn (K b)) (tn (U b)) k) - ((kn P M tr (lrn (K b)) (tn (U b)) k) / (nI 3))) + (lrn (K b)))), (0, .ref o), (1, .int (nI b)), (2, .int (nI tr)), (3, .int (nI n))]) hx hb dX5_knowsOf_57 hl (k := 2) rfl (show nI k + Int32.ofInt 1 = nI (k + 1) from nI_add _ 1) (by decide) rfl (fun ls hl => ?_)
          refine lv_goto (tgt := 14) hx hb dX5_knowsOf_60 (by decide) ?_
          have hl4 : lv_has ls 7 [(6, .int (nI (k + 1))), (5, .int (kn P M tr (lrn (K b)) (tn (U b)) (k + 1))), (4, .int (nI (wh P M (tn (U b)) (k + 1)))), (0, .ref o), (1, .int (nI b)), (2, .int (nI tr)), (3, .int (nI n))] := by
            rw [show (kn P M tr (lrn (K b)) (tn (U b)) (k + 1)) = (((kn P M tr (lrn (K b)) (tn (U b)) k) - ((kn P M tr (lrn (K b)) (tn (U b)) k) / (nI 3))) + (lrn (K b))) from by first | rfl | simp only [kn, wh, add0, iF_t c2]]
            rw [show (nI (wh P M (tn (U b)) (k + 1))) = (nI (nxt P M (wh P M (tn (U b)) k))) from by first | rfl | simp only [kn, wh, add0, iF_t c2]]
            exact (lv_sub hl [0, 2, 1, 3, 4, 5, 6] rfl)
          exact ih1 (k + 1) ls (by omega) (by omega) hl4
  have hl5 : lv_has ls 7 [(6, .int (nI 0)), (5, .int (kn P M tr (lrn (K b)) (tn (U b)) 0)), (4, .int (nI (wh P M (tn (U b)) 0))), (0, .ref o), (1, .int (nI b)), (2, .int (nI tr)), (3, .int (nI n))] := by
    rw [show (kn P M tr (lrn (K b)) (tn (U b)) 0) = (nI 0) from by first | rfl | simp only [kn, wh, add0]]
    rw [show (nI (wh P M (tn (U b)) 0)) = (nI (tn (U b))) from by first | rfl | simp only [kn, wh, add0]]
    exact (lv_sub hl [0, 1, 2, 3, 4, 5, 6] rfl)
  exact loop1 (n + 1) 0 ls (by omega) (by omega) hl5

set_option maxHeartbeats 4000000 in
set_option maxRecDepth 100000 in
theorem kX5_where (l : Launch) (G : Gl) (o : Nat) (ff : Int32) (ftr : Int32) (aso : Nat) (asl : Nat) (ace : Nat) (M : Nat) (B : Nat) (ape : Nat) (aki : Nat) (abo : Nat) (at_ : Int32) (rM : Int32) (rB : Int32) (arp : Nat) (ark : Nat) (arb : Nat) (fb : Int32) (fto : Int32) (R : Nat) (awh : Nat) (awn : Nat) (awm : Nat) (awk : Nat) (amo : Nat) (amu : Nat) (P : Nat → Int32) (U : Nat → Int32) (b : Int32) (n : Int32) (hM : M ≤ 5) (hB : B ≤ 4) (hU : ∀ b, b < B → vp_in (U b) M) : Rd l G yX5_where wsX5_where ({ frames := 3, cells := 0, slots := 0, locals := 68 } : Room) [.ref o, .int b, .int n] [(o, .inr (5, [.int ff, .int ftr, .ref aso, .ref asl, .ref ace, .int (nI M), .int (nI B), .ref ape, .ref aki, .ref abo, .int at_, .int rM, .int rB, .ref arp, .ref ark, .ref arb, .int fb, .int fto, .int (nI R), .ref awh, .ref awn, .ref awm, .ref awk, .ref amo, .ref amu])), (ape, aI G 25 P), (abo, aI G 4 U)] (some (.int (s_where B M P U b n))) := by
  refine Rd.ofI (cc := cX5_where) (maxL := 3) (by decide) rfl (Nat.le_of_ble_eq_true rfl) ?_
  intro p e s m below meth c Q ls hE hP hK hl hret
  obtain ⟨hx, hb, hml, hown, hts⟩ := id hE
  have hl : lv_has ls 3 [(0, .ref o), (1, .int b), (2, .int n)] := hl
  refine lv_aload_n hx hb dX5_where_0 rfl (lv_at hl 0 rfl) ?_
  refine lv_iload_n hx hb dX5_where_1 rfl (lv_at hl 1 rfl) ?_
  refine rdV (As := [.int b]) (rest := []) (ci := 5) (q0 := 0) hE (kX5_isBoy l G o ff ftr aso asl ace M B ape aki abo at_ rM rB arp ark arb fb fto R awh awn awm awk amo amu b hB) (cwV 1 hts gX5_where_X5_isBoy rfl rfl rfl (by decide +kernel) ⟨Nat.le_of_ble_eq_true rfl, Nat.le_of_ble_eq_true rfl⟩) hP hK [0] rfl rfl rfl rfl hl.1 rfl (Nat.le_of_ble_eq_true rfl) dX5_where_2 ⟨Nat.zero_le _, Nat.zero_le _⟩ ?_
  refine W.eq (g2 := F0 m 5 ls [.int (bI (vp_in b B))]) rfl ?_
  refine bz_ne (tgt := 10) hx hb dX5_where_5 (by decide) (fun c1 => ?_) (fun c1 => ?_)
  ·
    obtain ⟨jb, hjb, rfl⟩ := vp_in_of c1 (by omega)
    refine lv_iload_n hx hb dX5_where_10 rfl (lv_at hl 2 rfl) ?_
    refine lv_iconst (v := nI 0) hx hb dX5_where_11 (by decide) ?_
    refine lv_bipush (v := nI 60) hx hb dX5_where_12 (by decide) ?_
    refine rdS (As := [.int n, .int (nI 0), .int (nI 60)]) (rest := []) hE (kX5_within0 l G n 60 (by first | omega | assumption | exact hU _ (by omega) | exact hz _ (by omega) | exact hK3 _ (by omega))) (va_cwS 3 hts gX5_where_X5_within rfl rfl rfl (by decide +kernel) ⟨Nat.le_of_ble_eq_true rfl, Nat.le_of_ble_eq_true rfl⟩) hP hK [] rfl rfl hl.1 rfl (Nat.le_of_ble_eq_true rfl) dX5_where_14 ⟨Nat.zero_le _, Nat.zero_le _⟩ ?_
    refine W.eq (g2 := F0 m 17 ls [.int (bI (vp_in n (60 + 1)))]) rfl ?_
    refine bz_eq (tgt := 29) hx hb dX5_where_17 (by decide) (fun c2 => ?_) (fun c2 => ?_)
    ·
      refine lv_bipush (v := (-2)) hx hb dX5_where_29 (by decide) ?_
      exact hret _ _ _ (by first | with_reducible rfl | simp only [s_where, iF_t c1, iF_f c2, tn_nI (show jb < 2 ^ 31 by omega)]) dX5_where_31
    ·
      obtain ⟨jn, hjn, rfl⟩ := vp_in_of c2 (by omega)
      refine lv_aload_n hx hb dX5_where_20 rfl (lv_at hl 0 rfl) ?_
      refine lv_iload_n hx hb dX5_where_21 rfl (lv_at hl 1 rfl) ?_
      refine lv_iload_n hx hb dX5_where_22 rfl (lv_at hl 2 rfl) ?_
      refine rdV (As := [.int (nI jb), .int (nI jn)]) (rest := []) (ci := 5) (q0 := 0) hE (kX5_whereOf l G o ff ftr aso asl ace M B ape aki abo at_ rM rB arp ark arb fb fto R awh awn awm awk amo amu P U jb jn hM (by first | omega | assumption | exact hU _ (by omega) | exact hz _ (by omega) | exact hK3 _ (by omega)) (by first | omega | assumption | exact hU _ (by omega) | exact hz _ (by omega) | exact hK3 _ (by omega)) (by first | omega | assumption | exact hU _ (by omega) | exact hz _ (by omega) | exact hK3 _ (by omega))) (cwV 2 hts gX5_where_X5_whereOf rfl rfl rfl (by decide +kernel) ⟨Nat.le_of_ble_eq_true rfl, Nat.le_of_ble_eq_true rfl⟩) hP hK [0, 1, 2] rfl rfl rfl rfl hl.1 rfl (Nat.le_of_ble_eq_true rfl) dX5_where_23 ⟨Nat.zero_le _, Nat.zero_le _⟩ ?_
      refine W.eq (g2 := F0 m 26 ls [.int (nI (wh P M (tn (U jb)) jn))]) rfl ?_
      refine lv_goto (tgt := 31) hx hb dX5_where_26 (by decide) ?_
      exact hret _ _ _ (by first | with_reducible rfl | simp only [s_where, iF_t c1, iF_t c2, tn_nI (show jb < 2 ^ 31 by omega), tn_nI (show jn < 2 ^ 31 by omega)]) dX5_where_31
  ·
    refine lv_iconst (v := (-1)) hx hb dX5_where_8 (by decide) ?_
    exact hret _ _ _ (by first | with_reducible rfl | simp only [s_where, iF_f c1]) dX5_where_9

set_option maxHeartbeats 4000000 in
set_option maxRecDepth 100000 in
theorem kX5_knows (l : Launch) (G : Gl) (o : Nat) (ff : Int32) (ftr : Int32) (aso : Nat) (asl : Nat) (ace : Nat) (M : Nat) (B : Nat) (ape : Nat) (aki : Nat) (abo : Nat) (at_ : Int32) (rM : Int32) (rB : Int32) (arp : Nat) (ark : Nat) (arb : Nat) (fb : Int32) (fto : Int32) (R : Nat) (awh : Nat) (awn : Nat) (awm : Nat) (awk : Nat) (amo : Nat) (amu : Nat) (P : Nat → Int32) (K : Nat → Int32) (U : Nat → Int32) (b : Int32) (m0 : Int32) (n : Int32) (hM : M ≤ 5) (hB : B ≤ 4) (hU : ∀ b, b < B → vp_in (U b) M) (hK3 : ∀ b, b < B → kd (K b)) : Rd l G yX5_knows wsX5_knows ({ frames := 3, cells := 0, slots := 0, locals := 70 } : Room) [.ref o, .int b, .int m0, .int n] [(o, .inr (5, [.int ff, .int ftr, .ref aso, .ref asl, .ref ace, .int (nI M), .int (nI B), .ref ape, .ref aki, .ref abo, .int at_, .int rM, .int rB, .ref arp, .ref ark, .ref arb, .int fb, .int fto, .int (nI R), .ref awh, .ref awn, .ref awm, .ref awk, .ref amo, .ref amu])), (ape, aI G 25 P), (aki, aI G 4 K), (abo, aI G 4 U)] (some (.int (s_knows B M P K U b m0 n))) := by
  refine Rd.ofI (cc := cX5_knows) (maxL := 4) (by decide) rfl (Nat.le_of_ble_eq_true rfl) ?_
  intro p e s m below meth c Q ls hE hP hK hl hret
  obtain ⟨hx, hb, hml, hown, hts⟩ := id hE
  have hl : lv_has ls 4 [(0, .ref o), (1, .int b), (2, .int m0), (3, .int n)] := hl
  refine lv_aload_n hx hb dX5_knows_0 rfl (lv_at hl 0 rfl) ?_
  refine lv_iload_n hx hb dX5_knows_1 rfl (lv_at hl 1 rfl) ?_
  refine rdV (As := [.int b]) (rest := []) (ci := 5) (q0 := 0) hE (kX5_isBoy l G o ff ftr aso asl ace M B ape aki abo at_ rM rB arp ark arb fb fto R awh awn awm awk amo amu b hB) (cwV 1 hts gX5_knows_X5_isBoy rfl rfl rfl (by decide +kernel) ⟨Nat.le_of_ble_eq_true rfl, Nat.le_of_ble_eq_true rfl⟩) hP hK [0] rfl rfl rfl rfl hl.1 rfl (Nat.le_of_ble_eq_true rfl) dX5_knows_2 ⟨Nat.zero_le _, Nat.zero_le _⟩ ?_
  refine W.eq (g2 := F0 m 5 ls [.int (bI (vp_in b B))]) rfl ?_
  refine bz_eq (tgt := 16) hx hb dX5_knows_5 (by decide) (fun c1 => ?_) (fun c1 => ?_)
  ·
    refine lv_iconst (v := (-1)) hx hb dX5_knows_16 (by decide) ?_
    exact hret _ _ _ (by first | with_reducible rfl | simp only [s_knows, iF_f c1]) dX5_knows_17
  ·
    obtain ⟨jb, hjb, rfl⟩ := vp_in_of c1 (by omega)
    refine lv_aload_n hx hb dX5_knows_8 rfl (lv_at hl 0 rfl) ?_
    refine lv_iload_n hx hb dX5_knows_9 rfl (lv_at hl 2 rfl) ?_
    refine rdV (As := [.int m0]) (rest := []) (ci := 5) (q0 := 0) hE (kX5_isMaster l G o ff ftr aso asl ace M B ape aki abo at_ rM rB arp ark arb fb fto R awh awn awm awk amo amu m0 hM) (cwV 1 hts gX5_knows_X5_isMaster rfl rfl rfl (by decide +kernel) ⟨Nat.le_of_ble_eq_true rfl, Nat.le_of_ble_eq_true rfl⟩) hP hK [0] rfl rfl rfl rfl hl.1 rfl (Nat.le_of_ble_eq_true rfl) dX5_knows_10 ⟨Nat.zero_le _, Nat.zero_le _⟩ ?_
    refine W.eq (g2 := F0 m 13 ls [.int (bI (vp_in m0 M))]) rfl ?_
    refine bz_ne (tgt := 18) hx hb dX5_knows_13 (by decide) (fun c2 => ?_) (fun c2 => ?_)
    ·
      obtain ⟨jm0, hjm0, rfl⟩ := vp_in_of c2 (by omega)
      refine lv_iload_n hx hb dX5_knows_18 rfl (lv_at hl 3 rfl) ?_
      refine lv_iconst (v := nI 0) hx hb dX5_knows_19 (by decide) ?_
      refine lv_bipush (v := nI 60) hx hb dX5_knows_20 (by decide) ?_
      refine rdS (As := [.int n, .int (nI 0), .int (nI 60)]) (rest := []) hE (kX5_within0 l G n 60 (by first | omega | assumption | exact hU _ (by omega) | exact hz _ (by omega) | exact hK3 _ (by omega))) (va_cwS 3 hts gX5_knows_X5_within rfl rfl rfl (by decide +kernel) ⟨Nat.le_of_ble_eq_true rfl, Nat.le_of_ble_eq_true rfl⟩) hP hK [] rfl rfl hl.1 rfl (Nat.le_of_ble_eq_true rfl) dX5_knows_22 ⟨Nat.zero_le _, Nat.zero_le _⟩ ?_
      refine W.eq (g2 := F0 m 25 ls [.int (bI (vp_in n (60 + 1)))]) rfl ?_
      refine bz_eq (tgt := 38) hx hb dX5_knows_25 (by decide) (fun c3 => ?_) (fun c3 => ?_)
      ·
        refine lv_bipush (v := (-2)) hx hb dX5_knows_38 (by decide) ?_
        exact hret _ _ _ (by first | with_reducible rfl | simp only [s_knows, iF_t c1, iF_t c2, iF_f c3, tn_nI (show jb < 2 ^ 31 by omega), tn_nI (show jm0 < 2 ^ 31 by omega)]) dX5_knows_40
      ·
        obtain ⟨jn, hjn, rfl⟩ := vp_in_of c3 (by omega)
        refine lv_aload_n hx hb dX5_knows_28 rfl (lv_at hl 0 rfl) ?_
        refine lv_iload_n hx hb dX5_knows_29 rfl (lv_at hl 1 rfl) ?_
        refine lv_iload_n hx hb dX5_knows_30 rfl (lv_at hl 2 rfl) ?_
        refine lv_iload_n hx hb dX5_knows_31 rfl (lv_at hl 3 rfl) ?_
        refine rdV (As := [.int (nI jb), .int (nI jm0), .int (nI jn)]) (rest := []) (ci := 5) (q0 := 0) hE (kX5_knowsOf l G o ff ftr aso asl ace M B ape aki abo at_ rM rB arp ark arb fb fto R awh awn awm awk amo amu P K U jb jm0 jn hM (by first | omega | assumption | exact hU _ (by omega) | exact hz _ (by omega) | exact hK3 _ (by omega)) (by first | omega | assumption | exact hU _ (by omega) | exact hz _ (by omega) | exact hK3 _ (by omega)) (by first | omega | assumption | exact hU _ (by omega) | exact hz _ (by omega) | exact hK3 _ (by omega)) hjm0 (by first | omega | assumption | exact hU _ (by omega) | exact hz _ (by omega) | exact hK3 _ (by omega))) (cwV 3 hts gX5_knows_X5_knowsOf rfl rfl rfl (by decide +kernel) ⟨Nat.le_of_ble_eq_true rfl, Nat.le_of_ble_eq_true rfl⟩) hP hK [0, 1, 2, 3] rfl rfl rfl rfl hl.1 rfl (Nat.le_of_ble_eq_true rfl) dX5_knows_32 ⟨Nat.zero_le _, Nat.zero_le _⟩ ?_
        refine W.eq (g2 := F0 m 35 ls [.int (kn P M jm0 (lrn (K jb)) (tn (U jb)) jn)]) rfl ?_
        refine lv_goto (tgt := 40) hx hb dX5_knows_35 (by decide) ?_
        exact hret _ _ _ (by first | with_reducible rfl | simp only [s_knows, iF_t c1, iF_t c2, iF_t c3, tn_nI (show jb < 2 ^ 31 by omega), tn_nI (show jm0 < 2 ^ 31 by omega), tn_nI (show jn < 2 ^ 31 by omega)]) dX5_knows_40
    ·
      refine lv_iconst (v := (-1)) hx hb dX5_knows_16 (by decide) ?_
      exact hret _ _ _ (by first | with_reducible rfl | simp only [s_knows, iF_t c1, iF_f c2, tn_nI (show jb < 2 ^ 31 by omega)]) dX5_knows_17

theorem ixX5_able_X5 : ∀ w ∈ wsX50, w ∈ wsX5_able := fun _ h => List.mem_cons_of_mem _ (List.mem_append_right _ h)
theorem lkX5_able_65 : Cond.fieldLink RX5 65 (TX5 5).1 (TX5 5).2.1 (TX5 5).2.2.1 ∈ wsX5_able := List.mem_of_getElem? (i := 1) rfl
theorem lkX5_able_68 : Cond.fieldLink RX5 68 (TX5 6).1 (TX5 6).2.1 (TX5 6).2.2.1 ∈ wsX5_able := List.mem_of_getElem? (i := 2) rfl
set_option maxHeartbeats 4000000 in
set_option maxRecDepth 100000 in
theorem kX5_able (l : Launch) (G : Gl) (o : Nat) (ff : Int32) (ftr : Int32) (aso : Nat) (asl : Nat) (ace : Nat) (M : Nat) (B : Nat) (ape : Nat) (aki : Nat) (abo : Nat) (at_ : Int32) (rM : Int32) (rB : Int32) (arp : Nat) (ark : Nat) (arb : Nat) (fb : Int32) (fto : Int32) (R : Nat) (awh : Nat) (awn : Nat) (awm : Nat) (awk : Nat) (amo : Nat) (amu : Nat) (P : Nat → Int32) (K : Nat → Int32) (U : Nat → Int32) (n : Int32) (hM : M ≤ 5) (hB : B ≤ 4) (hU : ∀ b, b < B → vp_in (U b) M) (hK3 : ∀ b, b < B → kd (K b)) : Rd l G yX5_able wsX5_able ({ frames := 3, cells := 0, slots := 0, locals := 70 } : Room) [.ref o, .int n] [(o, .inr (5, [.int ff, .int ftr, .ref aso, .ref asl, .ref ace, .int (nI M), .int (nI B), .ref ape, .ref aki, .ref abo, .int at_, .int rM, .int rB, .ref arp, .ref ark, .ref arb, .int fb, .int fto, .int (nI R), .ref awh, .ref awn, .ref awm, .ref awk, .ref amo, .ref amu])), (ape, aI G 25 P), (aki, aI G 4 K), (abo, aI G 4 U)] (some (.int (s_able B M P K U n))) := by
  refine Rd.ofI (cc := cX5_able) (maxL := 5) (by decide) rfl (Nat.le_of_ble_eq_true rfl) ?_
  intro p e s m below meth c Q ls hE hP hK hl hret
  obtain ⟨hx, hb, hml, hown, hts⟩ := id hE
  have hl : lv_has ls 5 [(0, .ref o), (1, .int n)] := hl
  refine lv_iload_n hx hb dX5_able_0 rfl (lv_at hl 1 rfl) ?_
  refine lv_iconst (v := nI 0) hx hb dX5_able_1 (by decide) ?_
  refine lv_bipush (v := nI 60) hx hb dX5_able_2 (by decide) ?_
  refine rdS (As := [.int n, .int (nI 0), .int (nI 60)]) (rest := []) hE (kX5_within0 l G n 60 (by first | omega | assumption | exact hU _ (by omega) | exact hz _ (by omega) | exact hK3 _ (by omega))) (va_cwS 3 hts gX5_able_X5_within rfl rfl rfl (by decide +kernel) ⟨Nat.le_of_ble_eq_true rfl, Nat.le_of_ble_eq_true rfl⟩) hP hK [] rfl rfl hl.1 rfl (Nat.le_of_ble_eq_true rfl) dX5_able_4 ⟨Nat.zero_le _, Nat.zero_le _⟩ ?_
  refine W.eq (g2 := F0 m 7 ls [.int (bI (vp_in n (60 + 1)))]) rfl ?_
  refine bz_ne (tgt := 13) hx hb dX5_able_7 (by decide) (fun c1 => ?_) (fun c1 => ?_)
  ·
    obtain ⟨jn, hjn, rfl⟩ := vp_in_of c1 (by omega)
    refine lv_aload_n hx hb dX5_able_13 rfl (lv_at hl 0 rfl) ?_
    refine g_get (v := .int (nI M)) hx hb hts ixX5_able_X5 hown hK hP 0 rfl rfl 5 (by decide) lkX5_able_65 rfl dX5_able_14 ?_
    refine iz_ne (tgt := 23) hx hb (by omega) dX5_able_17 (by decide) (fun c2 => ?_) (fun c2 => ?_)
    ·
      refine lv_iconst (v := nI 0) hx hb dX5_able_23 (by decide) ?_
      refine lv_istore_n (lv' := [(2, .int (nI 0)), (0, .ref o), (1, .int (nI jn))]) hx hb dX5_able_24 rfl hl (by decide) rfl (fun ls hl => ?_)
      refine lv_iconst (v := nI 0) hx hb dX5_able_25 (by decide) ?_
      refine lv_istore_n (lv' := [(3, .int (nI 0)), (2, .int (nI 0)), (0, .ref o), (1, .int (nI jn))]) hx hb dX5_able_26 rfl hl (by decide) rfl (fun ls hl => ?_)
      have loop1 : ∀ (d k : Nat) (ls : Array Slot), B < k + d → k ≤ B → lv_has ls 5 [(3, .int (nI k)), (2, .int (ab P M K U jn k)), (0, .ref o), (1, .int (nI jn))] → W p l e ({ frames := 3, cells := 0, slots := 0, locals := 70 } : Room) s m ([.ref o, .int (nI jn)] : List Value).toArray below meth c s.heap [] 0 0 Q (F0 m 27 ls []) := by
        intro d
        induction d with
        | zero =>
          intro k ls h1 h2
          omega
        | succ d ih1 =>
          intro k ls hdk hbk hl
          refine lv_iload_n hx hb dX5_able_27 rfl (lv_at hl 0 rfl) ?_
          refine lv_aload_n hx hb dX5_able_28 rfl (lv_at hl 2 rfl) ?_
          refine g_get (v := .int (nI B)) hx hb hts ixX5_able_X5 hown hK hP 0 rfl rfl 6 (by decide) lkX5_able_68 rfl dX5_able_29 ?_
          refine ic_ge (tgt := 73) hx hb (by omega) (by omega) dX5_able_32 (by decide) (fun c3 => ?_) (fun c3 => ?_)
          ·
            obtain rfl : B = k := by omega
            refine lv_iload_n hx hb dX5_able_73 rfl (lv_at hl 1 rfl) ?_
            exact hret _ _ _ (by first | with_reducible rfl | simp only [s_able, iF_t c1, iF_f c2, tn_nI (show jn < 2 ^ 31 by omega)]) dX5_able_74
          ·
            refine lv_aload_n hx hb dX5_able_35 rfl (lv_at hl 2 rfl) ?_
            refine lv_iload_n hx hb dX5_able_36 rfl (lv_at hl 0 rfl) ?_
            refine lv_iload_n hx hb dX5_able_37 rfl (lv_at hl 3 rfl) ?_
            refine rdV (As := [.int (nI k), .int (nI jn)]) (rest := []) (ci := 5) (q0 := 0) hE (kX5_whereOf l G o ff ftr aso asl ace M B ape aki abo at_ rM rB arp ark arb fb fto R awh awn awm awk amo amu P U k jn hM (by first | omega | assumption | exact hU _ (by omega) | exact hz _ (by omega) | exact hK3 _ (by omega)) (by first | omega | assumption | exact hU _ (by omega) | exact hz _ (by omega) | exact hK3 _ (by omega)) (by first | omega | assumption | exact hU _ (by omega) | exact hz _ (by omega) | exact hK3 _ (by omega))) (cwV 2 hts gX5_able_X5_whereOf rfl rfl rfl (by decide +kernel) ⟨Nat.le_of_ble_eq_true rfl, Nat.le_of_ble_eq_true rfl⟩) hP hK [0, 1, 3] rfl rfl rfl rfl hl.1 rfl (Nat.le_of_ble_eq_true rfl) dX5_able_38 ⟨Nat.zero_le _, Nat.zero_le _⟩ ?_
            refine W.eq (g2 := F0 m 41 ls [.int (nI (wh P M (tn (U k)) jn))]) rfl ?_
            refine lv_istore (lv' := [(4, .int (nI (wh P M (tn (U k)) jn))), (3, .int (nI k)), (2, .int (ab P M K U jn k)), (0, .ref o), (1, .int (nI jn))]) hx hb dX5_able_41 hl (by decide) rfl (fun ls hl => ?_)
            have hwl := wh_lt (P := P) (tn_lt (hU k (by omega)) (by omega)) jn
            refine lv_iload_n hx hb dX5_able_43 rfl (lv_at hl 2 rfl) ?_
            refine lv_aload_n hx hb dX5_able_44 rfl (lv_at hl 3 rfl) ?_
            refine lv_iload_n hx hb dX5_able_45 rfl (lv_at hl 1 rfl) ?_
            refine lv_iload hx hb dX5_able_46 (lv_at hl 0 rfl) ?_
            refine lv_iload_n hx hb dX5_able_48 rfl (lv_at hl 4 rfl) ?_
            refine rdV (As := [.int (nI k), .int (nI (wh P M (tn (U k)) jn)), .int (nI jn)]) (rest := [.int (ab P M K U jn k)]) (ci := 5) (q0 := 0) hE (kX5_knowsOf l G o ff ftr aso asl ace M B ape aki abo at_ rM rB arp ark arb fb fto R awh awn awm awk amo amu P K U k (wh P M (tn (U k)) jn) jn hM (by first | omega | assumption | exact hU _ (by omega) | exact hz _ (by omega) | exact hK3 _ (by omega)) (by first | omega | assumption | exact hU _ (by omega) | exact hz _ (by omega) | exact hK3 _ (by omega)) (by first | omega | assumption | exact hU _ (by omega) | exact hz _ (by omega) | exact hK3 _ (by omega)) (by first | omega | assumption | exact hU _ (by omega) | exact hz _ (by omega) | exact hK3 _ (by omega)) (by first | omega | assumption | exact hU _ (by omega) | exact hz _ (by omega) | exact hK3 _ (by omega))) (cwV 3 hts gX5_able_X5_knowsOf rfl rfl rfl (by decide +kernel) ⟨Nat.le_of_ble_eq_true rfl, Nat.le_of_ble_eq_true rfl⟩) hP hK [0, 1, 2, 3] rfl rfl rfl rfl hl.1 rfl (Nat.le_of_ble_eq_true rfl) dX5_able_49 ⟨Nat.zero_le _, Nat.zero_le _⟩ ?_
            refine W.eq (g2 := F0 m 52 ls [.int (kn P M (wh P M (tn (U k)) jn) (lrn (K k)) (tn (U k)) jn), .int (ab P M K U jn k)]) rfl ?_
            refine lv_bipush (v := nI 9) hx hb dX5_able_52 (by decide) ?_
            refine lv_icmp_lt (tgt := 64) hx hb dX5_able_54 (by decide) (fun c4 => ?_) (fun c4 => ?_)
            ·
              refine lv_iconst (v := nI 0) hx hb dX5_able_64 (by decide) ?_
              refine lv_ior hx hb dX5_able_65 ?_
              refine lv_istore_n (lv' := [(2, .int ((ab P M K U jn k) ||| (nI 0))), (4, .int (nI (wh P M (tn (U k)) jn))), (3, .int (nI k)), (0, .ref o), (1, .int (nI jn))]) hx hb dX5_able_66 rfl hl (by decide) rfl (fun ls hl => ?_)
              refine lv_iinc (v := nI (k + 1)) (lv' := [(3, .int (nI (k + 1))), (2, .int ((ab P M K U jn k) ||| (nI 0))), (4, .int (nI (wh P M (tn (U k)) jn))), (0, .ref o), (1, .int (nI jn))]) hx hb dX5_able_67 hl (k := 2) rfl (show nI k + Int32.ofInt 1 = nI (k + 1) from nI_add _ 1) (by decide) rfl (fun ls hl => ?_)
              refine lv_goto (tgt := 27) hx hb dX5_able_70 (by decide) ?_
              have hl5 : lv_has ls 5 [(3, .int (nI (k + 1))), (2, .int (ab P M K U jn (k + 1))), (0, .ref o), (1, .int (nI jn))] := by
                rw [show (ab P M K U jn (k + 1)) = ((ab P M K U jn k) ||| (nI 0)) from by first | rfl | simp only [ab, or0, iF_t c1, iF_f c2, iF_t c4, iF_f (i32_lt c4), tn_nI (show jn < 2 ^ 31 by omega)]]
                exact (lv_sub hl [0, 1, 3, 4] rfl)
              exact ih1 (k + 1) ls (by omega) (by omega) hl5
            ·
              refine lv_iconst (v := nI 1) hx hb dX5_able_57 (by decide) ?_
              refine lv_iload hx hb dX5_able_58 (lv_at hl 0 rfl) ?_
              refine lv_ishl hx hb dX5_able_60 ?_
              refine lv_goto (tgt := 65) hx hb dX5_able_61 (by decide) ?_
              refine lv_ior hx hb dX5_able_65 ?_
              refine lv_istore_n (lv' := [(2, .int ((ab P M K U jn k) ||| ((nI 1) <<< (nI (wh P M (tn (U k)) jn) &&& 31)))), (4, .int (nI (wh P M (tn (U k)) jn))), (3, .int (nI k)), (0, .ref o), (1, .int (nI jn))]) hx hb dX5_able_66 rfl hl (by decide) rfl (fun ls hl => ?_)
              refine lv_iinc (v := nI (k + 1)) (lv' := [(3, .int (nI (k + 1))), (2, .int ((ab P M K U jn k) ||| ((nI 1) <<< (nI (wh P M (tn (U k)) jn) &&& 31)))), (4, .int (nI (wh P M (tn (U k)) jn))), (0, .ref o), (1, .int (nI jn))]) hx hb dX5_able_67 hl (k := 2) rfl (show nI k + Int32.ofInt 1 = nI (k + 1) from nI_add _ 1) (by decide) rfl (fun ls hl => ?_)
              refine lv_goto (tgt := 27) hx hb dX5_able_70 (by decide) ?_
              have hl6 : lv_has ls 5 [(3, .int (nI (k + 1))), (2, .int (ab P M K U jn (k + 1))), (0, .ref o), (1, .int (nI jn))] := by
                rw [show (ab P M K U jn (k + 1)) = ((ab P M K U jn k) ||| ((nI 1) <<< (nI (wh P M (tn (U k)) jn) &&& 31))) from by first | rfl | simp only [ab, or0, iF_t c1, iF_f c2, iF_f c4, iF_t (i32_nlt c4), tn_nI (show jn < 2 ^ 31 by omega)]]
                exact (lv_sub hl [0, 1, 3, 4] rfl)
              exact ih1 (k + 1) ls (by omega) (by omega) hl6
      have hl7 : lv_has ls 5 [(3, .int (nI 0)), (2, .int (ab P M K U jn 0)), (0, .ref o), (1, .int (nI jn))] := by
        rw [show (ab P M K U jn 0) = (nI 0) from by first | rfl | simp only [ab, or0, iF_t c1, iF_f c2, tn_nI (show jn < 2 ^ 31 by omega)]]
        exact (lv_sub hl [0, 1, 2, 3] rfl)
      exact loop1 (B + 1) 0 ls (by omega) (by omega) hl7
    ·
      refine lv_bipush (v := (-3)) hx hb dX5_able_20 (by decide) ?_
      exact hret _ _ _ (by first | with_reducible rfl | simp only [s_able, iF_t c1, iF_t c2, tn_nI (show jn < 2 ^ 31 by omega)]) dX5_able_22
  ·
    refine lv_bipush (v := (-2)) hx hb dX5_able_10 (by decide) ?_
    exact hret _ _ _ (by first | with_reducible rfl | simp only [s_able, iF_f c1]) dX5_able_12

theorem ixX5_ring_X5 : ∀ w ∈ wsX50, w ∈ wsX5_ring := fun _ h => List.mem_cons_of_mem _ (List.mem_append_right _ h)
theorem lkX5_ring_65 : Cond.fieldLink RX5 65 (TX5 5).1 (TX5 5).2.1 (TX5 5).2.2.1 ∈ wsX5_ring := List.mem_of_getElem? (i := 1) rfl
set_option maxHeartbeats 4000000 in
set_option maxRecDepth 100000 in
theorem kX5_ring (l : Launch) (G : Gl) (o : Nat) (ff : Int32) (ftr : Int32) (aso : Nat) (asl : Nat) (ace : Nat) (M : Nat) (B : Nat) (ape : Nat) (aki : Nat) (abo : Nat) (at_ : Int32) (rM : Int32) (rB : Int32) (arp : Nat) (ark : Nat) (arb : Nat) (fb : Int32) (fto : Int32) (R : Nat) (awh : Nat) (awn : Nat) (awm : Nat) (awk : Nat) (amo : Nat) (amu : Nat) (P : Nat → Int32) (m0 : Int32) (hM : M ≤ 5) : Rd l G yX5_ring wsX5_ring ({ frames := 2, cells := 0, slots := 0, locals := 44 } : Room) [.ref o, .int m0] [(o, .inr (5, [.int ff, .int ftr, .ref aso, .ref asl, .ref ace, .int (nI M), .int (nI B), .ref ape, .ref aki, .ref abo, .int at_, .int rM, .int rB, .ref arp, .ref ark, .ref arb, .int fb, .int fto, .int (nI R), .ref awh, .ref awn, .ref awm, .ref awk, .ref amo, .ref amu])), (ape, aI G 25 P)] (some (.int (s_ring M P m0))) := by
  refine Rd.ofI (cc := cX5_ring) (maxL := 4) (by decide) rfl (Nat.le_of_ble_eq_true rfl) ?_
  intro p e s m below meth c Q ls hE hP hK hl hret
  obtain ⟨hx, hb, hml, hown, hts⟩ := id hE
  have hl : lv_has ls 4 [(0, .ref o), (1, .int m0)] := hl
  refine lv_aload_n hx hb dX5_ring_0 rfl (lv_at hl 0 rfl) ?_
  refine lv_iload_n hx hb dX5_ring_1 rfl (lv_at hl 1 rfl) ?_
  refine rdV (As := [.int m0]) (rest := []) (ci := 5) (q0 := 0) hE (kX5_isMaster l G o ff ftr aso asl ace M B ape aki abo at_ rM rB arp ark arb fb fto R awh awn awm awk amo amu m0 hM) (cwV 1 hts gX5_ring_X5_isMaster rfl rfl rfl (by decide +kernel) ⟨Nat.le_of_ble_eq_true rfl, Nat.le_of_ble_eq_true rfl⟩) hP hK [0] rfl rfl rfl rfl hl.1 rfl (Nat.le_of_ble_eq_true rfl) dX5_ring_2 ⟨Nat.zero_le _, Nat.zero_le _⟩ ?_
  refine W.eq (g2 := F0 m 5 ls [.int (bI (vp_in m0 M))]) rfl ?_
  refine bz_ne (tgt := 10) hx hb dX5_ring_5 (by decide) (fun c1 => ?_) (fun c1 => ?_)
  ·
    obtain ⟨jm0, hjm0, rfl⟩ := vp_in_of c1 (by omega)
    refine lv_iload_n hx hb dX5_ring_10 rfl (lv_at hl 1 rfl) ?_
    refine lv_istore_n (lv' := [(2, .int (nI jm0)), (0, .ref o), (1, .int (nI jm0))]) hx hb dX5_ring_11 rfl hl (by decide) rfl (fun ls hl => ?_)
    refine lv_iconst (v := nI 0) hx hb dX5_ring_12 (by decide) ?_
    refine lv_istore_n (lv' := [(3, .int (nI 0)), (2, .int (nI jm0)), (0, .ref o), (1, .int (nI jm0))]) hx hb dX5_ring_13 rfl hl (by decide) rfl (fun ls hl => ?_)
    have loop1 : ∀ (d k : Nat) (ls : Array Slot), M < k + d → k ≤ M → lv_has ls 4 [(3, .int (nI k)), (2, .int (nI (wh P M jm0 k))), (0, .ref o), (1, .int (nI jm0))] → W p l e ({ frames := 2, cells := 0, slots := 0, locals := 44 } : Room) s m ([.ref o, .int (nI jm0)] : List Value).toArray below meth c s.heap [] 0 0 Q (F0 m 14 ls []) := by
      intro d
      induction d with
      | zero =>
        intro k ls h1 h2
        omega
      | succ d ih1 =>
        intro k ls hdk hbk hl
        refine lv_iload_n hx hb dX5_ring_14 rfl (lv_at hl 0 rfl) ?_
        refine lv_aload_n hx hb dX5_ring_15 rfl (lv_at hl 2 rfl) ?_
        refine g_get (v := .int (nI M)) hx hb hts ixX5_ring_X5 hown hK hP 0 rfl rfl 5 (by decide) lkX5_ring_65 rfl dX5_ring_16 ?_
        refine ic_ge (tgt := 34) hx hb (by omega) (by omega) dX5_ring_19 (by decide) (fun c2 => ?_) (fun c2 => ?_)
        ·
          obtain rfl : M = k := by omega
          have hv0 := wh_lt (P := P) (show jm0 < M by omega) M
          refine lv_iconst (v := nI 0) hx hb dX5_ring_34 (by decide) ?_
          refine lv_istore_n (lv' := [(3, .int (nI 0)), (2, .int (nI (wh P M jm0 M))), (0, .ref o), (1, .int (nI jm0))]) hx hb dX5_ring_35 rfl hl (by decide) rfl (fun ls hl => ?_)
          have loop2 : ∀ (d j : Nat) (ls : Array Slot), M < j + d → j ≤ M → (∀ i, i < j → rgb P M (wh P M jm0 M) i = 0) → lv_has ls 4 [(3, .int (mt P M (wh P M jm0 M) j)), (2, .int (nI (wh P M (wh P M jm0 M) j))), (0, .ref o), (1, .int (nI jm0))] → W p l e ({ frames := 2, cells := 0, slots := 0, locals := 44 } : Room) s m ([.ref o, .int (nI jm0)] : List Value).toArray below meth c s.heap [] 0 0 Q (F0 m 36 ls []) := by
            intro d
            induction d with
            | zero =>
              intro j ls h1 h2
              omega
            | succ d ih2 =>
              intro j ls hdj hbj hr hl
              refine lv_iload_n hx hb dX5_ring_36 rfl (lv_at hl 0 rfl) ?_
              refine lv_iload_n hx hb dX5_ring_37 rfl (lv_at hl 1 rfl) ?_
              refine lv_ishr hx hb dX5_ring_38 ?_
              refine lv_iconst (v := nI 1) hx hb dX5_ring_39 (by decide) ?_
              refine lv_iand hx hb dX5_ring_40 ?_
              refine lv_if_ne (tgt := 59) hx hb dX5_ring_41 (by decide) (fun c3 => ?_) (fun c3 => ?_)
              ·
                refine lv_iload_n hx hb dX5_ring_59 rfl (lv_at hl 0 rfl) ?_
                exact hret _ _ _ (by simp only [s_ring, iF_t c1, tn_nI (show jm0 < 2 ^ 31 by omega)]; exact rg_end hM hv0 hbj hr c3) dX5_ring_60
              ·
                have hjM := rg_lt (P := P) hM hv0 hbj hr c3
                refine lv_iload_n hx hb dX5_ring_44 rfl (lv_at hl 0 rfl) ?_
                refine lv_iconst (v := nI 1) hx hb dX5_ring_45 (by decide) ?_
                refine lv_iload_n hx hb dX5_ring_46 rfl (lv_at hl 1 rfl) ?_
                refine lv_ishl hx hb dX5_ring_47 ?_
                refine lv_ior hx hb dX5_ring_48 ?_
                refine lv_istore_n (lv' := [(3, .int ((mt P M (wh P M jm0 M) j) ||| ((nI 1) <<< (nI (wh P M (wh P M jm0 M) j) &&& 31)))), (2, .int (nI (wh P M (wh P M jm0 M) j))), (0, .ref o), (1, .int (nI jm0))]) hx hb dX5_ring_49 rfl hl (by decide) rfl (fun ls hl => ?_)
                refine lv_aload_n hx hb dX5_ring_50 rfl (lv_at hl 2 rfl) ?_
                refine lv_iload_n hx hb dX5_ring_51 rfl (lv_at hl 1 rfl) ?_
                refine rdV (As := [.int (nI (wh P M (wh P M jm0 M) j))]) (rest := []) (ci := 5) (q0 := 0) hE (kX5_nextOf l G o ff ftr aso asl ace M B ape aki abo at_ rM rB arp ark arb fb fto R awh awn awm awk amo amu P (wh P M (wh P M jm0 M) j) hM (wh_lt hv0 j)) (cwV 1 hts gX5_ring_X5_nextOf rfl rfl rfl (by decide +kernel) ⟨Nat.le_of_ble_eq_true rfl, Nat.le_of_ble_eq_true rfl⟩) hP hK [0, 1] rfl rfl rfl rfl hl.1 rfl (Nat.le_of_ble_eq_true rfl) dX5_ring_52 ⟨Nat.zero_le _, Nat.zero_le _⟩ ?_
                refine W.eq (g2 := F0 m 55 ls [.int (nI (nxt P M (wh P M (wh P M jm0 M) j)))]) rfl ?_
                refine lv_istore_n (lv' := [(2, .int (nI (nxt P M (wh P M (wh P M jm0 M) j)))), (3, .int ((mt P M (wh P M jm0 M) j) ||| ((nI 1) <<< (nI (wh P M (wh P M jm0 M) j) &&& 31)))), (0, .ref o), (1, .int (nI jm0))]) hx hb dX5_ring_55 rfl hl (by decide) rfl (fun ls hl => ?_)
                refine lv_goto (tgt := 36) hx hb dX5_ring_56 (by decide) ?_
                have hl4 : lv_has ls 4 [(3, .int (mt P M (wh P M jm0 M) (j + 1))), (2, .int (nI (wh P M (wh P M jm0 M) (j + 1)))), (0, .ref o), (1, .int (nI jm0))] := by
                  rw [show (mt P M (wh P M jm0 M) (j + 1)) = ((mt P M (wh P M jm0 M) j) ||| ((nI 1) <<< (nI (wh P M (wh P M jm0 M) j) &&& 31))) from by first | rfl | simp only [wh, mt, iF_t c1, iF_t c3, tn_nI (show jm0 < 2 ^ 31 by omega)]]
                  rw [show (nI (wh P M (wh P M jm0 M) (j + 1))) = (nI (nxt P M (wh P M (wh P M jm0 M) j))) from by first | rfl | simp only [wh, mt, iF_t c1, iF_t c3, tn_nI (show jm0 < 2 ^ 31 by omega)]]
                  exact (lv_sub hl [1, 0, 2, 3] rfl)
                exact ih2 (j + 1) ls (by omega) (by omega) (fun i hi => (by rcases Nat.lt_or_ge i j with q | q; exact hr i q; have e : i = j := by omega; rw [e]; exact c3)) hl4
          have hl5 : lv_has ls 4 [(3, .int (mt P M (wh P M jm0 M) 0)), (2, .int (nI (wh P M (wh P M jm0 M) 0))), (0, .ref o), (1, .int (nI jm0))] := by
            rw [show (mt P M (wh P M jm0 M) 0) = (nI 0) from by first | rfl | simp only [wh, mt, iF_t c1, tn_nI (show jm0 < 2 ^ 31 by omega)]]
            rw [show (nI (wh P M (wh P M jm0 M) 0)) = (nI (wh P M jm0 M)) from by first | rfl | simp only [wh, mt, iF_t c1, tn_nI (show jm0 < 2 ^ 31 by omega)]]
            exact (lv_sub hl [0, 1, 2, 3] rfl)
          exact loop2 (M + 1) 0 ls (by omega) (by omega) (fun i h => absurd h (Nat.not_lt_zero i)) hl5
        ·
          refine lv_aload_n hx hb dX5_ring_22 rfl (lv_at hl 2 rfl) ?_
          refine lv_iload_n hx hb dX5_ring_23 rfl (lv_at hl 1 rfl) ?_
          refine rdV (As := [.int (nI (wh P M jm0 k))]) (rest := []) (ci := 5) (q0 := 0) hE (kX5_nextOf l G o ff ftr aso asl ace M B ape aki abo at_ rM rB arp ark arb fb fto R awh awn awm awk amo amu P (wh P M jm0 k) hM (wh_lt (show jm0 < M by omega) k)) (cwV 1 hts gX5_ring_X5_nextOf rfl rfl rfl (by decide +kernel) ⟨Nat.le_of_ble_eq_true rfl, Nat.le_of_ble_eq_true rfl⟩) hP hK [0, 1] rfl rfl rfl rfl hl.1 rfl (Nat.le_of_ble_eq_true rfl) dX5_ring_24 ⟨Nat.zero_le _, Nat.zero_le _⟩ ?_
          refine W.eq (g2 := F0 m 27 ls [.int (nI (nxt P M (wh P M jm0 k)))]) rfl ?_
          refine lv_istore_n (lv' := [(2, .int (nI (nxt P M (wh P M jm0 k)))), (3, .int (nI k)), (0, .ref o), (1, .int (nI jm0))]) hx hb dX5_ring_27 rfl hl (by decide) rfl (fun ls hl => ?_)
          refine lv_iinc (v := nI (k + 1)) (lv' := [(3, .int (nI (k + 1))), (2, .int (nI (nxt P M (wh P M jm0 k)))), (0, .ref o), (1, .int (nI jm0))]) hx hb dX5_ring_28 hl (k := 1) rfl (show nI k + Int32.ofInt 1 = nI (k + 1) from nI_add _ 1) (by decide) rfl (fun ls hl => ?_)
          refine lv_goto (tgt := 14) hx hb dX5_ring_31 (by decide) ?_
          have hl6 : lv_has ls 4 [(3, .int (nI (k + 1))), (2, .int (nI (wh P M jm0 (k + 1)))), (0, .ref o), (1, .int (nI jm0))] := by
            rw [show (nI (wh P M jm0 (k + 1))) = (nI (nxt P M (wh P M jm0 k))) from by first | rfl | simp only [wh, iF_t c1, tn_nI (show jm0 < 2 ^ 31 by omega)]]
            exact (lv_sub hl [0, 1, 2, 3] rfl)
          exact ih1 (k + 1) ls (by omega) (by omega) hl6
    have hl7 : lv_has ls 4 [(3, .int (nI 0)), (2, .int (nI (wh P M jm0 0))), (0, .ref o), (1, .int (nI jm0))] := by
      rw [show (nI (wh P M jm0 0)) = (nI jm0) from by first | rfl | simp only [wh, iF_t c1, tn_nI (show jm0 < 2 ^ 31 by omega)]]
      exact (lv_sub hl [0, 1, 2, 3] rfl)
    exact loop1 (M + 1) 0 ls (by omega) (by omega) hl7
  ·
    refine lv_iconst (v := (-1)) hx hb dX5_ring_8 (by decide) ?_
    exact hret _ _ _ (by first | with_reducible rfl | simp only [s_ring, iF_f c1]) dX5_ring_9

theorem ixX5_home_X5 : ∀ w ∈ wsX50, w ∈ wsX5_home := fun _ h => List.mem_cons_of_mem _ (List.mem_append_right _ h)
theorem lkX5_home_25 : Cond.fieldLink RX5 25 (TX5 9).1 (TX5 9).2.1 (TX5 9).2.2.1 ∈ wsX5_home := List.mem_of_getElem? (i := 1) rfl
theorem lkX5_home_65 : Cond.fieldLink RX5 65 (TX5 5).1 (TX5 5).2.1 (TX5 5).2.2.1 ∈ wsX5_home := List.mem_of_getElem? (i := 2) rfl
set_option maxHeartbeats 4000000 in
set_option maxRecDepth 100000 in
theorem kX5_home (l : Launch) (G : Gl) (o : Nat) (ff : Int32) (ftr : Int32) (aso : Nat) (asl : Nat) (ace : Nat) (M : Nat) (B : Nat) (ape : Nat) (aki : Nat) (abo : Nat) (at_ : Int32) (rM : Int32) (rB : Int32) (arp : Nat) (ark : Nat) (arb : Nat) (fb : Int32) (fto : Int32) (R : Nat) (awh : Nat) (awn : Nat) (awm : Nat) (awk : Nat) (amo : Nat) (amu : Nat) (P : Nat → Int32) (U : Nat → Int32) (b : Int32) (hM : M ≤ 5) (hB : B ≤ 4) (hU : ∀ b, b < B → vp_in (U b) M) : Rd l G yX5_home wsX5_home ({ frames := 2, cells := 0, slots := 0, locals := 44 } : Room) [.ref o, .int b] [(o, .inr (5, [.int ff, .int ftr, .ref aso, .ref asl, .ref ace, .int (nI M), .int (nI B), .ref ape, .ref aki, .ref abo, .int at_, .int rM, .int rB, .ref arp, .ref ark, .ref arb, .int fb, .int fto, .int (nI R), .ref awh, .ref awn, .ref awm, .ref awk, .ref amo, .ref amu])), (ape, aI G 25 P), (abo, aI G 4 U)] (some (.int (s_home B M P U b))) := by
  refine Rd.ofI (cc := cX5_home) (maxL := 4) (by decide) rfl (Nat.le_of_ble_eq_true rfl) ?_
  intro p e s m below meth c Q ls hE hP hK hl hret
  obtain ⟨hx, hb, hml, hown, hts⟩ := id hE
  have hl : lv_has ls 4 [(0, .ref o), (1, .int b)] := hl
  refine lv_aload_n hx hb dX5_home_0 rfl (lv_at hl 0 rfl) ?_
  refine lv_iload_n hx hb dX5_home_1 rfl (lv_at hl 1 rfl) ?_
  refine rdV (As := [.int b]) (rest := []) (ci := 5) (q0 := 0) hE (kX5_isBoy l G o ff ftr aso asl ace M B ape aki abo at_ rM rB arp ark arb fb fto R awh awn awm awk amo amu b hB) (cwV 1 hts gX5_home_X5_isBoy rfl rfl rfl (by decide +kernel) ⟨Nat.le_of_ble_eq_true rfl, Nat.le_of_ble_eq_true rfl⟩) hP hK [0] rfl rfl rfl rfl hl.1 rfl (Nat.le_of_ble_eq_true rfl) dX5_home_2 ⟨Nat.zero_le _, Nat.zero_le _⟩ ?_
  refine W.eq (g2 := F0 m 5 ls [.int (bI (vp_in b B))]) rfl ?_
  refine bz_ne (tgt := 10) hx hb dX5_home_5 (by decide) (fun c1 => ?_) (fun c1 => ?_)
  ·
    obtain ⟨jb, hjb, rfl⟩ := vp_in_of c1 (by omega)
    refine lv_aload_n hx hb dX5_home_10 rfl (lv_at hl 0 rfl) ?_
    refine g_get (v := .ref abo) hx hb hts ixX5_home_X5 hown hK hP 0 rfl rfl 9 (by decide) lkX5_home_25 rfl dX5_home_11 ?_
    refine lv_iload_n hx hb dX5_home_14 rfl (lv_at hl 1 rfl) ?_
    refine n_ald hx hb hK hP 2 rfl (k := jb) (by omega) (by decide) dX5_home_15 ?_
    refine lv_tope (show U jb = nI (tn (U jb)) from tn_of (hU jb hjb) (by omega)) ?_
    refine lv_istore_n (lv' := [(2, .int (nI (tn (U jb)))), (0, .ref o), (1, .int (nI jb))]) hx hb dX5_home_16 rfl hl (by decide) rfl (fun ls hl => ?_)
    refine lv_iconst (v := nI 1) hx hb dX5_home_17 (by decide) ?_
    refine lv_istore_n (lv' := [(3, .int (nI 1)), (2, .int (nI (tn (U jb)))), (0, .ref o), (1, .int (nI jb))]) hx hb dX5_home_18 rfl hl (by decide) rfl (fun ls hl => ?_)
    have loop1 : ∀ (d k : Nat) (ls : Array Slot), M < k + d → k ≤ M → (fi (fun k => wh P M (tn (U jb)) (k + 1) = tn (U jb)) k = none) → lv_has ls 4 [(3, .int (nI (k + 1))), (2, .int (nI (wh P M (tn (U jb)) k))), (0, .ref o), (1, .int (nI jb))] → W p l e ({ frames := 2, cells := 0, slots := 0, locals := 44 } : Room) s m ([.ref o, .int (nI jb)] : List Value).toArray below meth c s.heap [] 0 0 Q (F0 m 19 ls []) := by
      intro d
      induction d with
      | zero =>
        intro k ls h1 h2
        omega
      | succ d ih1 =>
        intro k ls hdk hbk hk hl
        refine lv_iload_n hx hb dX5_home_19 rfl (lv_at hl 0 rfl) ?_
        refine lv_aload_n hx hb dX5_home_20 rfl (lv_at hl 2 rfl) ?_
        refine g_get (v := .int (nI M)) hx hb hts ixX5_home_X5 hown hK hP 0 rfl rfl 5 (by decide) lkX5_home_65 rfl dX5_home_21 ?_
        refine ic_gt (tgt := 51) hx hb (by omega) (by omega) dX5_home_24 (by decide) (fun c2 => ?_) (fun c2 => ?_)
        ·
          obtain rfl : M = k := by omega
          refine lv_bipush (v := (-9)) hx hb dX5_home_51 (by decide) ?_
          exact hret _ _ _ (by simp only [s_home, hmf, iF_t c1, tn_nI (show jb < 2 ^ 31 by omega)]; rw [hk]; rfl) dX5_home_53
        ·
          refine lv_aload_n hx hb dX5_home_27 rfl (lv_at hl 2 rfl) ?_
          refine lv_iload_n hx hb dX5_home_28 rfl (lv_at hl 1 rfl) ?_
          refine rdV (As := [.int (nI (wh P M (tn (U jb)) k))]) (rest := []) (ci := 5) (q0 := 0) hE (kX5_nextOf l G o ff ftr aso asl ace M B ape aki abo at_ rM rB arp ark arb fb fto R awh awn awm awk amo amu P (wh P M (tn (U jb)) k) hM (wh_lt (tn_lt (hU jb hjb) (by omega)) k)) (cwV 1 hts gX5_home_X5_nextOf rfl rfl rfl (by decide +kernel) ⟨Nat.le_of_ble_eq_true rfl, Nat.le_of_ble_eq_true rfl⟩) hP hK [0, 1] rfl rfl rfl rfl hl.1 rfl (Nat.le_of_ble_eq_true rfl) dX5_home_29 ⟨Nat.zero_le _, Nat.zero_le _⟩ ?_
          refine W.eq (g2 := F0 m 32 ls [.int (nI (nxt P M (wh P M (tn (U jb)) k)))]) rfl ?_
          refine lv_istore_n (lv' := [(2, .int (nI (nxt P M (wh P M (tn (U jb)) k)))), (3, .int (nI (k + 1))), (0, .ref o), (1, .int (nI jb))]) hx hb dX5_home_32 rfl hl (by decide) rfl (fun ls hl => ?_)
          refine lv_iload_n hx hb dX5_home_33 rfl (lv_at hl 0 rfl) ?_
          refine lv_aload_n hx hb dX5_home_34 rfl (lv_at hl 2 rfl) ?_
          refine g_get (v := .ref abo) hx hb hts ixX5_home_X5 hown hK hP 0 rfl rfl 9 (by decide) lkX5_home_25 rfl dX5_home_35 ?_
          refine lv_iload_n hx hb dX5_home_38 rfl (lv_at hl 3 rfl) ?_
          refine n_ald hx hb hK hP 2 rfl (k := jb) (by omega) (by decide) dX5_home_39 ?_
          refine lv_tope (show U jb = nI (tn (U jb)) from tn_of (hU jb hjb) (by omega)) ?_
          have hwl := wh_lt (P := P) (tn_lt (hU jb hjb) (by omega)) (k + 1)
          have hwl2 : nxt P M (wh P M (tn (U jb)) k) < M := hwl
          have hul := tn_lt (hU jb hjb) (by omega)
          refine ic_ne (tgt := 45) hx hb (by omega) (by omega) dX5_home_40 (by decide) (fun c3 => ?_) (fun c3 => ?_)
          ·
            refine lv_iinc (v := nI ((k + 1) + 1)) (lv' := [(3, .int (nI ((k + 1) + 1))), (2, .int (nI (nxt P M (wh P M (tn (U jb)) k)))), (0, .ref o), (1, .int (nI jb))]) hx hb dX5_home_45 hl (k := 1) rfl (show nI (k + 1) + Int32.ofInt 1 = nI ((k + 1) + 1) from nI_add _ 1) (by decide) rfl (fun ls hl => ?_)
            refine lv_goto (tgt := 19) hx hb dX5_home_48 (by decide) ?_
            have hl4 : lv_has ls 4 [(3, .int (nI ((k + 1) + 1))), (2, .int (nI (wh P M (tn (U jb)) (k + 1)))), (0, .ref o), (1, .int (nI jb))] := by
              rw [show (nI (wh P M (tn (U jb)) (k + 1))) = (nI (nxt P M (wh P M (tn (U jb)) k))) from by first | rfl | simp only [wh, iF_t c1, iF_f c3, tn_nI (show jb < 2 ^ 31 by omega)]]
              exact (lv_sub hl [0, 1, 2, 3] rfl)
            exact ih1 (k + 1) ls (by omega) (by omega) (fi_miss hk c3) hl4
          ·
            refine lv_iload_n hx hb dX5_home_43 rfl (lv_at hl 1 rfl) ?_
            exact hret _ _ _ (by simp only [s_home, hmf, iF_t c1, tn_nI (show jb < 2 ^ 31 by omega)]; rw [fi_hit hk c3 (by omega)]; rfl) dX5_home_44
    have hl5 : lv_has ls 4 [(3, .int (nI (0 + 1))), (2, .int (nI (wh P M (tn (U jb)) 0))), (0, .ref o), (1, .int (nI jb))] := by
      rw [show (nI (0 + 1)) = (nI 1) from by first | rfl | simp only [wh, iF_t c1, tn_nI (show jb < 2 ^ 31 by omega)]]
      rw [show (nI (wh P M (tn (U jb)) 0)) = (nI (tn (U jb))) from by first | rfl | simp only [wh, iF_t c1, tn_nI (show jb < 2 ^ 31 by omega)]]
      exact (lv_sub hl [0, 1, 2, 3] rfl)
    exact loop1 (M + 1) 0 ls (by omega) (by omega) rfl hl5
  ·
    refine lv_iconst (v := (-1)) hx hb dX5_home_8 (by decide) ?_
    exact hret _ _ _ (by first | with_reducible rfl | simp only [s_home, iF_f c1]) dX5_home_9

theorem ixX5_never_X5 : ∀ w ∈ wsX50, w ∈ wsX5_never := fun _ h => List.mem_cons_of_mem _ (List.mem_append_right _ h)
theorem lkX5_never_25 : Cond.fieldLink RX5 25 (TX5 9).1 (TX5 9).2.1 (TX5 9).2.2.1 ∈ wsX5_never := List.mem_of_getElem? (i := 1) rfl
theorem lkX5_never_65 : Cond.fieldLink RX5 65 (TX5 5).1 (TX5 5).2.1 (TX5 5).2.2.1 ∈ wsX5_never := List.mem_of_getElem? (i := 2) rfl
set_option maxHeartbeats 4000000 in
set_option maxRecDepth 100000 in
theorem kX5_never (l : Launch) (G : Gl) (o : Nat) (ff : Int32) (ftr : Int32) (aso : Nat) (asl : Nat) (ace : Nat) (M : Nat) (B : Nat) (ape : Nat) (aki : Nat) (abo : Nat) (at_ : Int32) (rM : Int32) (rB : Int32) (arp : Nat) (ark : Nat) (arb : Nat) (fb : Int32) (fto : Int32) (R : Nat) (awh : Nat) (awn : Nat) (awm : Nat) (awk : Nat) (amo : Nat) (amu : Nat) (P : Nat → Int32) (U : Nat → Int32) (b : Int32) (hM : M ≤ 5) (hB : B ≤ 4) (hU : ∀ b, b < B → vp_in (U b) M) : Rd l G yX5_never wsX5_never ({ frames := 2, cells := 0, slots := 0, locals := 44 } : Room) [.ref o, .int b] [(o, .inr (5, [.int ff, .int ftr, .ref aso, .ref asl, .ref ace, .int (nI M), .int (nI B), .ref ape, .ref aki, .ref abo, .int at_, .int rM, .int rB, .ref arp, .ref ark, .ref arb, .int fb, .int fto, .int (nI R), .ref awh, .ref awn, .ref awm, .ref awk, .ref amo, .ref amu])), (ape, aI G 25 P), (abo, aI G 4 U)] (some (.int (s_never B M P U b))) := by
  refine Rd.ofI (cc := cX5_never) (maxL := 5) (by decide) rfl (Nat.le_of_ble_eq_true rfl) ?_
  intro p e s m below meth c Q ls hE hP hK hl hret
  obtain ⟨hx, hb, hml, hown, hts⟩ := id hE
  have hl : lv_has ls 5 [(0, .ref o), (1, .int b)] := hl
  refine lv_aload_n hx hb dX5_never_0 rfl (lv_at hl 0 rfl) ?_
  refine lv_iload_n hx hb dX5_never_1 rfl (lv_at hl 1 rfl) ?_
  refine rdV (As := [.int b]) (rest := []) (ci := 5) (q0 := 0) hE (kX5_isBoy l G o ff ftr aso asl ace M B ape aki abo at_ rM rB arp ark arb fb fto R awh awn awm awk amo amu b hB) (cwV 1 hts gX5_never_X5_isBoy rfl rfl rfl (by decide +kernel) ⟨Nat.le_of_ble_eq_true rfl, Nat.le_of_ble_eq_true rfl⟩) hP hK [0] rfl rfl rfl rfl hl.1 rfl (Nat.le_of_ble_eq_true rfl) dX5_never_2 ⟨Nat.zero_le _, Nat.zero_le _⟩ ?_
  refine W.eq (g2 := F0 m 5 ls [.int (bI (vp_in b B))]) rfl ?_
  refine bz_ne (tgt := 10) hx hb dX5_never_5 (by decide) (fun c1 => ?_) (fun c1 => ?_)
  ·
    obtain ⟨jb, hjb, rfl⟩ := vp_in_of c1 (by omega)
    refine lv_iconst (v := nI 0) hx hb dX5_never_10 (by decide) ?_
    refine lv_istore_n (lv' := [(2, .int (nI 0)), (0, .ref o), (1, .int (nI jb))]) hx hb dX5_never_11 rfl hl (by decide) rfl (fun ls hl => ?_)
    refine lv_aload_n hx hb dX5_never_12 rfl (lv_at hl 1 rfl) ?_
    refine g_get (v := .ref abo) hx hb hts ixX5_never_X5 hown hK hP 0 rfl rfl 9 (by decide) lkX5_never_25 rfl dX5_never_13 ?_
    refine lv_iload_n hx hb dX5_never_16 rfl (lv_at hl 2 rfl) ?_
    refine n_ald hx hb hK hP 2 rfl (k := jb) (by omega) (by decide) dX5_never_17 ?_
    refine lv_tope (show U jb = nI (tn (U jb)) from tn_of (hU jb hjb) (by omega)) ?_
    refine lv_istore_n (lv' := [(3, .int (nI (tn (U jb)))), (2, .int (nI 0)), (0, .ref o), (1, .int (nI jb))]) hx hb dX5_never_18 rfl hl (by decide) rfl (fun ls hl => ?_)
    refine lv_iconst (v := nI 0) hx hb dX5_never_19 (by decide) ?_
    refine lv_istore (lv' := [(4, .int (nI 0)), (3, .int (nI (tn (U jb)))), (2, .int (nI 0)), (0, .ref o), (1, .int (nI jb))]) hx hb dX5_never_20 hl (by decide) rfl (fun ls hl => ?_)
    have loop1 : ∀ (d k : Nat) (ls : Array Slot), M < k + d → k ≤ M → lv_has ls 5 [(4, .int (nI k)), (3, .int (nI (wh P M (tn (U jb)) k))), (2, .int (mt P M (tn (U jb)) k)), (0, .ref o), (1, .int (nI jb))] → W p l e ({ frames := 2, cells := 0, slots := 0, locals := 44 } : Room) s m ([.ref o, .int (nI jb)] : List Value).toArray below meth c s.heap [] 0 0 Q (F0 m 22 ls []) := by
      intro d
      induction d with
      | zero =>
        intro k ls h1 h2
        omega
      | succ d ih1 =>
        intro k ls hdk hbk hl
        refine lv_iload hx hb dX5_never_22 (lv_at hl 0 rfl) ?_
        refine lv_aload_n hx hb dX5_never_24 rfl (lv_at hl 3 rfl) ?_
        refine g_get (v := .int (nI M)) hx hb hts ixX5_never_X5 hown hK hP 0 rfl rfl 5 (by decide) lkX5_never_65 rfl dX5_never_25 ?_
        refine ic_ge (tgt := 49) hx hb (by omega) (by omega) dX5_never_28 (by decide) (fun c2 => ?_) (fun c2 => ?_)
        ·
          obtain rfl : M = k := by omega
          refine lv_iconst (v := nI 1) hx hb dX5_never_49 (by decide) ?_
          refine lv_aload_n hx hb dX5_never_50 rfl (lv_at hl 3 rfl) ?_
          refine g_get (v := .int (nI M)) hx hb hts ixX5_never_X5 hown hK hP 0 rfl rfl 5 (by decide) lkX5_never_65 rfl dX5_never_51 ?_
          refine lv_ishl hx hb dX5_never_54 ?_
          refine lv_iconst (v := nI 1) hx hb dX5_never_55 (by decide) ?_
          refine lv_isub hx hb dX5_never_56 ?_
          refine lv_iload_n hx hb dX5_never_57 rfl (lv_at hl 2 rfl) ?_
          refine lv_iconst (v := (-1)) hx hb dX5_never_58 (by decide) ?_
          refine lv_ixor hx hb dX5_never_59 ?_
          refine lv_iand hx hb dX5_never_60 ?_
          exact hret _ _ _ (by first | with_reducible rfl | simp only [s_never, iF_t c1, tn_nI (show jb < 2 ^ 31 by omega)]) dX5_never_61
        ·
          refine lv_iload_n hx hb dX5_never_31 rfl (lv_at hl 2 rfl) ?_
          refine lv_iconst (v := nI 1) hx hb dX5_never_32 (by decide) ?_
          refine lv_iload_n hx hb dX5_never_33 rfl (lv_at hl 1 rfl) ?_
          refine lv_ishl hx hb dX5_never_34 ?_
          refine lv_ior hx hb dX5_never_35 ?_
          refine lv_istore_n (lv' := [(2, .int ((mt P M (tn (U jb)) k) ||| ((nI 1) <<< (nI (wh P M (tn (U jb)) k) &&& 31)))), (4, .int (nI k)), (3, .int (nI (wh P M (tn (U jb)) k))), (0, .ref o), (1, .int (nI jb))]) hx hb dX5_never_36 rfl hl (by decide) rfl (fun ls hl => ?_)
          refine lv_aload_n hx hb dX5_never_37 rfl (lv_at hl 3 rfl) ?_
          refine lv_iload_n hx hb dX5_never_38 rfl (lv_at hl 2 rfl) ?_
          refine rdV (As := [.int (nI (wh P M (tn (U jb)) k))]) (rest := []) (ci := 5) (q0 := 0) hE (kX5_nextOf l G o ff ftr aso asl ace M B ape aki abo at_ rM rB arp ark arb fb fto R awh awn awm awk amo amu P (wh P M (tn (U jb)) k) hM (wh_lt (tn_lt (hU jb hjb) (by omega)) k)) (cwV 1 hts gX5_never_X5_nextOf rfl rfl rfl (by decide +kernel) ⟨Nat.le_of_ble_eq_true rfl, Nat.le_of_ble_eq_true rfl⟩) hP hK [0, 1] rfl rfl rfl rfl hl.1 rfl (Nat.le_of_ble_eq_true rfl) dX5_never_39 ⟨Nat.zero_le _, Nat.zero_le _⟩ ?_
          refine W.eq (g2 := F0 m 42 ls [.int (nI (nxt P M (wh P M (tn (U jb)) k)))]) rfl ?_
          refine lv_istore_n (lv' := [(3, .int (nI (nxt P M (wh P M (tn (U jb)) k)))), (2, .int ((mt P M (tn (U jb)) k) ||| ((nI 1) <<< (nI (wh P M (tn (U jb)) k) &&& 31)))), (4, .int (nI k)), (0, .ref o), (1, .int (nI jb))]) hx hb dX5_never_42 rfl hl (by decide) rfl (fun ls hl => ?_)
          refine lv_iinc (v := nI (k + 1)) (lv' := [(4, .int (nI (k + 1))), (3, .int (nI (nxt P M (wh P M (tn (U jb)) k)))), (2, .int ((mt P M (tn (U jb)) k) ||| ((nI 1) <<< (nI (wh P M (tn (U jb)) k) &&& 31)))), (0, .ref o), (1, .int (nI jb))]) hx hb dX5_never_43 hl (k := 2) rfl (show nI k + Int32.ofInt 1 = nI (k + 1) from nI_add _ 1) (by decide) rfl (fun ls hl => ?_)
          refine lv_goto (tgt := 22) hx hb dX5_never_46 (by decide) ?_
          have hl3 : lv_has ls 5 [(4, .int (nI (k + 1))), (3, .int (nI (wh P M (tn (U jb)) (k + 1)))), (2, .int (mt P M (tn (U jb)) (k + 1))), (0, .ref o), (1, .int (nI jb))] := by
            rw [show (nI (wh P M (tn (U jb)) (k + 1))) = (nI (nxt P M (wh P M (tn (U jb)) k))) from by first | rfl | simp only [mt, wh, iF_t c1, tn_nI (show jb < 2 ^ 31 by omega)]]
            rw [show (mt P M (tn (U jb)) (k + 1)) = ((mt P M (tn (U jb)) k) ||| ((nI 1) <<< (nI (wh P M (tn (U jb)) k) &&& 31))) from by first | rfl | simp only [mt, wh, iF_t c1, tn_nI (show jb < 2 ^ 31 by omega)]]
            exact (lv_sub hl [0, 1, 2, 3, 4] rfl)
          exact ih1 (k + 1) ls (by omega) (by omega) hl3
    have hl4 : lv_has ls 5 [(4, .int (nI 0)), (3, .int (nI (wh P M (tn (U jb)) 0))), (2, .int (mt P M (tn (U jb)) 0)), (0, .ref o), (1, .int (nI jb))] := by
      rw [show (nI (wh P M (tn (U jb)) 0)) = (nI (tn (U jb))) from by first | rfl | simp only [mt, wh, iF_t c1, tn_nI (show jb < 2 ^ 31 by omega)]]
      rw [show (mt P M (tn (U jb)) 0) = (nI 0) from by first | rfl | simp only [mt, wh, iF_t c1, tn_nI (show jb < 2 ^ 31 by omega)]]
      exact (lv_sub hl [0, 1, 2, 3, 4] rfl)
    exact loop1 (M + 1) 0 ls (by omega) (by omega) hl4
  ·
    refine lv_iconst (v := (-1)) hx hb dX5_never_8 (by decide) ?_
    exact hret _ _ _ (by first | with_reducible rfl | simp only [s_never, iF_f c1]) dX5_never_9

theorem ixX5_many_X5 : ∀ w ∈ wsX50, w ∈ wsX5_many := fun _ h => List.mem_cons_of_mem _ (List.mem_append_right _ h)
theorem lkX5_many_98 : Cond.fieldLink RX5 98 (TX5 18).1 (TX5 18).2.1 (TX5 18).2.2.1 ∈ wsX5_many := List.mem_of_getElem? (i := 3) rfl
theorem lkX5_many_65 : Cond.fieldLink RX5 65 (TX5 5).1 (TX5 5).2.1 (TX5 5).2.2.1 ∈ wsX5_many := List.mem_of_getElem? (i := 2) rfl
theorem lkX5_many_68 : Cond.fieldLink RX5 68 (TX5 6).1 (TX5 6).2.1 (TX5 6).2.2.1 ∈ wsX5_many := List.mem_of_getElem? (i := 1) rfl
set_option maxHeartbeats 4000000 in
set_option maxRecDepth 100000 in
theorem kX5_many (l : Launch) (G : Gl) (o : Nat) (ff : Int32) (ftr : Int32) (aso : Nat) (asl : Nat) (ace : Nat) (M : Nat) (B : Nat) (ape : Nat) (aki : Nat) (abo : Nat) (at_ : Int32) (rM : Int32) (rB : Int32) (arp : Nat) (ark : Nat) (arb : Nat) (fb : Int32) (fto : Int32) (R : Nat) (awh : Nat) (awn : Nat) (awm : Nat) (awk : Nat) (amo : Nat) (amu : Nat) (w : Int32) : Rd l G yX5_many wsX5_many ({ frames := 0, cells := 0, slots := 0, locals := 0 } : Room) [.ref o, .int w] [(o, .inr (5, [.int ff, .int ftr, .ref aso, .ref asl, .ref ace, .int (nI M), .int (nI B), .ref ape, .ref aki, .ref abo, .int at_, .int rM, .int rB, .ref arp, .ref ark, .ref arb, .int fb, .int fto, .int (nI R), .ref awh, .ref awn, .ref awm, .ref awk, .ref amo, .ref amu]))] (some (.int (s_many B M R w))) := by
  refine Rd.ofI (cc := cX5_many) (maxL := 2) (by decide) rfl (Nat.le_of_ble_eq_true rfl) ?_
  intro p e s m below meth c Q ls hE hP hK hl hret
  obtain ⟨hx, hb, hml, hown, hts⟩ := id hE
  have hl : lv_has ls 2 [(0, .ref o), (1, .int w)] := hl
  refine lv_iload_n hx hb dX5_many_0 rfl (lv_at hl 1 rfl) ?_
  refine lv_if_ne (tgt := 11) hx hb dX5_many_1 (by decide) (fun c1 => ?_) (fun c1 => ?_)
  ·
    refine lv_iload_n hx hb dX5_many_11 rfl (lv_at hl 1 rfl) ?_
    refine lv_iconst (v := nI 1) hx hb dX5_many_12 (by decide) ?_
    refine lv_icmp_ne (tgt := 23) hx hb dX5_many_13 (by decide) (fun c2 => ?_) (fun c2 => ?_)
    ·
      refine lv_iload_n hx hb dX5_many_23 rfl (lv_at hl 1 rfl) ?_
      refine lv_iconst (v := nI 2) hx hb dX5_many_24 (by decide) ?_
      refine lv_icmp_ne (tgt := 35) hx hb dX5_many_25 (by decide) (fun c3 => ?_) (fun c3 => ?_)
      ·
        refine lv_bipush (v := (-2)) hx hb dX5_many_35 (by decide) ?_
        exact hret _ _ _ (by first | with_reducible rfl | simp only [s_many, iF_f c1, iF_f c2, iF_f (show ¬ w = 1 from c2), iF_f c3, iF_f (show ¬ w = 2 from c3)]) dX5_many_37
      ·
        refine lv_aload_n hx hb dX5_many_28 rfl (lv_at hl 0 rfl) ?_
        refine g_get (v := .int (nI R)) hx hb hts ixX5_many_X5 hown hK hP 0 rfl rfl 18 (by decide) lkX5_many_98 rfl dX5_many_29 ?_
        refine lv_goto (tgt := 37) hx hb dX5_many_32 (by decide) ?_
        exact hret _ _ _ (by first | with_reducible rfl | simp only [s_many, iF_f c1, iF_f c2, iF_f (show ¬ w = 1 from c2), iF_t c3, iF_t (show w = 2 from c3)]) dX5_many_37
    ·
      refine lv_aload_n hx hb dX5_many_16 rfl (lv_at hl 0 rfl) ?_
      refine g_get (v := .int (nI M)) hx hb hts ixX5_many_X5 hown hK hP 0 rfl rfl 5 (by decide) lkX5_many_65 rfl dX5_many_17 ?_
      refine lv_goto (tgt := 37) hx hb dX5_many_20 (by decide) ?_
      exact hret _ _ _ (by first | with_reducible rfl | simp only [s_many, iF_f c1, iF_t c2, iF_t (show w = 1 from c2)]) dX5_many_37
  ·
    refine lv_aload_n hx hb dX5_many_4 rfl (lv_at hl 0 rfl) ?_
    refine g_get (v := .int (nI B)) hx hb hts ixX5_many_X5 hown hK hP 0 rfl rfl 6 (by decide) lkX5_many_68 rfl dX5_many_5 ?_
    refine lv_goto (tgt := 37) hx hb dX5_many_8 (by decide) ?_
    exact hret _ _ _ (by first | with_reducible rfl | simp only [s_many, iF_t c1]) dX5_many_37

theorem ixX5_begins_X5 : ∀ w ∈ wsX50, w ∈ wsX5_begins := fun _ h => List.mem_cons_of_mem _ (List.mem_append_right _ h)
theorem lkX5_begins_168 : Cond.fieldLink RX5 168 (TX5 1).1 (TX5 1).2.1 (TX5 1).2.2.1 ∈ wsX5_begins := List.mem_of_getElem? (i := 1) rfl
set_option maxHeartbeats 4000000 in
set_option maxRecDepth 100000 in
theorem kX5_begins (l : Launch) (G : Gl) (o : Nat) (ff : Int32) (ftr : Int32) (aso : Nat) (asl : Nat) (ace : Nat) (M : Nat) (B : Nat) (ape : Nat) (aki : Nat) (abo : Nat) (at_ : Int32) (rM : Int32) (rB : Int32) (arp : Nat) (ark : Nat) (arb : Nat) (fb : Int32) (fto : Int32) (R : Nat) (awh : Nat) (awn : Nat) (awm : Nat) (awk : Nat) (amo : Nat) (amu : Nat) (q : Int32) : Wt l G yX5_begins wsX5_begins ({ frames := 0, cells := 0, slots := 0, locals := 0 } : Room) [.ref o, .int q] [(o, .inr (5, [.int ff, .int ftr, .ref aso, .ref asl, .ref ace, .int (nI M), .int (nI B), .ref ape, .ref aki, .ref abo, .int at_, .int rM, .int rB, .ref arp, .ref ark, .ref arb, .int fb, .int fto, .int (nI R), .ref awh, .ref awn, .ref awm, .ref awk, .ref amo, .ref amu]))] [(o, .inr (5, [.int ff, .int (lt1 ftr q), .ref aso, .ref asl, .ref ace, .int (nI M), .int (nI B), .ref ape, .ref aki, .ref abo, .int at_, .int rM, .int rB, .ref arp, .ref ark, .ref arb, .int fb, .int fto, .int (nI R), .ref awh, .ref awn, .ref awm, .ref awk, .ref amo, .ref amu]))] none := by
  refine Wt.ofV (cc := cX5_begins) (maxL := 2) (by decide) rfl (Nat.le_of_ble_eq_true rfl) ?_
  intro p e s m below meth c Q A ls hE hin hP hK hD hS hl hret
  obtain ⟨hx, hb, hml, hown, hts⟩ := id hE
  have hl : lv_has ls 2 [(0, .ref o), (1, .int q)] := hl
  refine lv_aload_n hx hb dX5_begins_0 rfl (lv_at hl 0 rfl) ?_
  refine lv_bipush (v := nI 31) hx hb dX5_begins_1 (by decide) ?_
  refine lv_aload_n hx hb dX5_begins_3 rfl (lv_at hl 0 rfl) ?_
  refine g_get (v := .int ftr) hx hb hts ixX5_begins_X5 hown hK hP 0 rfl rfl 1 (by decide) lkX5_begins_168 rfl dX5_begins_4 ?_
  refine lv_imul hx hb dX5_begins_7 ?_
  refine lv_iload_n hx hb dX5_begins_8 rfl (lv_at hl 1 rfl) ?_
  refine lv_iadd hx hb dX5_begins_9 ?_
  refine g_put (v := (((nI 31) * ftr) + q)) hx hb hts ixX5_begins_X5 tyX5 tyX5_ok nmX5 hown hK hP hD hS 0 rfl rfl 1 (by decide) lkX5_begins_168 rfl rfl (by simp only [List.length_cons, List.length_nil]; omega) dX5_begins_10 (fun H locs hP hD hS => ?_)
  have hP : va_P G.1 vwCl [(o, .inr (5, [.int ff, .int (((nI 31) * ftr) + q), .ref aso, .ref asl, .ref ace, .int (nI M), .int (nI B), .ref ape, .ref aki, .ref abo, .int at_, .int rM, .int rB, .ref arp, .ref ark, .ref arb, .int fb, .int fto, .int (nI R), .ref awh, .ref awn, .ref awm, .ref awk, .ref amo, .ref amu]))] H := hP
  have hD : va_D A [(o, .inr (5, [.int ff, .int (((nI 31) * ftr) + q), .ref aso, .ref asl, .ref ace, .int (nI M), .int (nI B), .ref ape, .ref aki, .ref abo, .int at_, .int rM, .int rB, .ref arp, .ref ark, .ref arb, .int fb, .int fto, .int (nI R), .ref awh, .ref awn, .ref awm, .ref awk, .ref amo, .ref amu]))] := hD
  exact hret _ _ _ _ (by first | exact hP | (simp only []; exact hP)) hS dX5_begins_13

theorem ixX5_trace_X5 : ∀ w ∈ wsX50, w ∈ wsX5_trace := fun _ h => List.mem_cons_of_mem _ (List.mem_append_right _ h)
theorem lkX5_trace_168 : Cond.fieldLink RX5 168 (TX5 1).1 (TX5 1).2.1 (TX5 1).2.2.1 ∈ wsX5_trace := List.mem_of_getElem? (i := 1) rfl
set_option maxHeartbeats 4000000 in
set_option maxRecDepth 100000 in
theorem kX5_trace (l : Launch) (G : Gl) (o : Nat) (ff : Int32) (ftr : Int32) (aso : Nat) (asl : Nat) (ace : Nat) (M : Nat) (B : Nat) (ape : Nat) (aki : Nat) (abo : Nat) (at_ : Int32) (rM : Int32) (rB : Int32) (arp : Nat) (ark : Nat) (arb : Nat) (fb : Int32) (fto : Int32) (R : Nat) (awh : Nat) (awn : Nat) (awm : Nat) (awk : Nat) (amo : Nat) (amu : Nat) : Rd l G yX5_trace wsX5_trace ({ frames := 0, cells := 0, slots := 0, locals := 0 } : Room) [.ref o] [(o, .inr (5, [.int ff, .int ftr, .ref aso, .ref asl, .ref ace, .int (nI M), .int (nI B), .ref ape, .ref aki, .ref abo, .int at_, .int rM, .int rB, .ref arp, .ref ark, .ref arb, .int fb, .int fto, .int (nI R), .ref awh, .ref awn, .ref awm, .ref awk, .ref amo, .ref amu]))] (some (.int ftr)) := by
  refine Rd.ofI (cc := cX5_trace) (maxL := 1) (by decide) rfl (Nat.le_of_ble_eq_true rfl) ?_
  intro p e s m below meth c Q ls hE hP hK hl hret
  obtain ⟨hx, hb, hml, hown, hts⟩ := id hE
  have hl : lv_has ls 1 [(0, .ref o)] := hl
  refine lv_aload_n hx hb dX5_trace_0 rfl (lv_at hl 0 rfl) ?_
  refine g_get (v := .int ftr) hx hb hts ixX5_trace_X5 hown hK hP 0 rfl rfl 1 (by decide) lkX5_trace_168 rfl dX5_trace_1 ?_
  exact hret _ _ _ (by first | with_reducible rfl | simp only []) dX5_trace_4

theorem ixX5_fault_X5 : ∀ w ∈ wsX50, w ∈ wsX5_fault := fun _ h => List.mem_cons_of_mem _ (List.mem_append_right _ h)
theorem lkX5_fault_55 : Cond.fieldLink RX5 55 (TX5 0).1 (TX5 0).2.1 (TX5 0).2.2.1 ∈ wsX5_fault := List.mem_of_getElem? (i := 1) rfl
set_option maxHeartbeats 4000000 in
set_option maxRecDepth 100000 in
theorem kX5_fault (l : Launch) (G : Gl) (o : Nat) (ff : Int32) (ftr : Int32) (aso : Nat) (asl : Nat) (ace : Nat) (M : Nat) (B : Nat) (ape : Nat) (aki : Nat) (abo : Nat) (at_ : Int32) (rM : Int32) (rB : Int32) (arp : Nat) (ark : Nat) (arb : Nat) (fb : Int32) (fto : Int32) (R : Nat) (awh : Nat) (awn : Nat) (awm : Nat) (awk : Nat) (amo : Nat) (amu : Nat) : Rd l G yX5_fault wsX5_fault ({ frames := 0, cells := 0, slots := 0, locals := 0 } : Room) [.ref o] [(o, .inr (5, [.int ff, .int ftr, .ref aso, .ref asl, .ref ace, .int (nI M), .int (nI B), .ref ape, .ref aki, .ref abo, .int at_, .int rM, .int rB, .ref arp, .ref ark, .ref arb, .int fb, .int fto, .int (nI R), .ref awh, .ref awn, .ref awm, .ref awk, .ref amo, .ref amu]))] (some (.int ff)) := by
  refine Rd.ofI (cc := cX5_fault) (maxL := 1) (by decide) rfl (Nat.le_of_ble_eq_true rfl) ?_
  intro p e s m below meth c Q ls hE hP hK hl hret
  obtain ⟨hx, hb, hml, hown, hts⟩ := id hE
  have hl : lv_has ls 1 [(0, .ref o)] := hl
  refine lv_aload_n hx hb dX5_fault_0 rfl (lv_at hl 0 rfl) ?_
  refine g_get (v := .int ff) hx hb hts ixX5_fault_X5 hown hK hP 0 rfl rfl 0 (by decide) lkX5_fault_55 rfl dX5_fault_1 ?_
  exact hret _ _ _ (by first | with_reducible rfl | simp only []) dX5_fault_4

theorem ixX5_tell_X5 : ∀ w ∈ wsX50, w ∈ wsX5_tell := fun _ h => List.mem_cons_of_mem _ (List.mem_append_right _ h)
theorem lkX5_tell_25 : Cond.fieldLink RX5 25 (TX5 9).1 (TX5 9).2.1 (TX5 9).2.2.1 ∈ wsX5_tell := List.mem_of_getElem? (i := 1) rfl
theorem lkX5_tell_22 : Cond.fieldLink RX5 22 (TX5 8).1 (TX5 8).2.1 (TX5 8).2.2.1 ∈ wsX5_tell := List.mem_of_getElem? (i := 2) rfl
set_option maxHeartbeats 4000000 in
set_option maxRecDepth 100000 in
theorem kX5_tell (l : Launch) (G : Gl) (o : Nat) (ff : Int32) (ftr : Int32) (aso : Nat) (asl : Nat) (ace : Nat) (M : Nat) (B : Nat) (ape : Nat) (aki : Nat) (abo : Nat) (at_ : Int32) (rM : Int32) (rB : Int32) (arp : Nat) (ark : Nat) (arb : Nat) (fb : Int32) (fto : Int32) (R : Nat) (awh : Nat) (awn : Nat) (awm : Nat) (awk : Nat) (amo : Nat) (amu : Nat) (K : Nat → Int32) (U : Nat → Int32) (b : Int32) (hB : B ≤ 4) : Wt l G yX5_tell wsX5_tell ({ frames := 1, cells := 0, slots := 0, locals := 21 } : Room) [.ref o, .int b] [(o, .inr (5, [.int ff, .int ftr, .ref aso, .ref asl, .ref ace, .int (nI M), .int (nI B), .ref ape, .ref aki, .ref abo, .int at_, .int rM, .int rB, .ref arp, .ref ark, .ref arb, .int fb, .int fto, .int (nI R), .ref awh, .ref awn, .ref awm, .ref awk, .ref amo, .ref amu])), (aki, aI G 4 K), (abo, aI G 4 U)] [(o, .inr (5, [.int ff, .int (t_tell B K ftr b), .ref aso, .ref asl, .ref ace, .int (nI M), .int (nI B), .ref ape, .ref aki, .ref abo, .int at_, .int rM, .int rB, .ref arp, .ref ark, .ref arb, .int fb, .int fto, .int (nI R), .ref awh, .ref awn, .ref awm, .ref awk, .ref amo, .ref amu])), (aki, aI G 4 K), (abo, aI G 4 U)] (some (.int (s_tell B K U b))) := by
  refine Wt.ofI (cc := cX5_tell) (maxL := 3) (by decide) rfl (Nat.le_of_ble_eq_true rfl) ?_
  intro p e s m below meth c Q A ls hE hP hK hD hS hl hret
  obtain ⟨hx, hb, hml, hown, hts⟩ := id hE
  have hl : lv_has ls 3 [(0, .ref o), (1, .int b)] := hl
  refine lv_aload_n hx hb dX5_tell_0 rfl (lv_at hl 0 rfl) ?_
  refine lv_iload_n hx hb dX5_tell_1 rfl (lv_at hl 1 rfl) ?_
  refine rdV (As := [.int b]) (rest := []) (ci := 5) (q0 := 0) hE (kX5_isBoy l G o ff ftr aso asl ace M B ape aki abo at_ rM rB arp ark arb fb fto R awh awn awm awk amo amu b hB) (cwV 1 hts gX5_tell_X5_isBoy rfl rfl rfl (by decide +kernel) ⟨Nat.le_of_ble_eq_true rfl, Nat.le_of_ble_eq_true rfl⟩) hP hK [0] rfl rfl rfl rfl hl.1 rfl (Nat.le_of_ble_eq_true rfl) dX5_tell_2 ⟨Nat.zero_le _, Nat.zero_le _⟩ ?_
  refine W.eq (g2 := F0 m 5 ls [.int (bI (vp_in b B))]) rfl ?_
  refine bz_ne (tgt := 10) hx hb dX5_tell_5 (by decide) (fun c1 => ?_) (fun c1 => ?_)
  ·
    obtain ⟨jb, hjb, rfl⟩ := vp_in_of c1 (by omega)
    refine lv_aload_n hx hb dX5_tell_10 rfl (lv_at hl 0 rfl) ?_
    refine g_get (v := .ref abo) hx hb hts ixX5_tell_X5 hown hK hP 0 rfl rfl 9 (by decide) lkX5_tell_25 rfl dX5_tell_11 ?_
    refine lv_iload_n hx hb dX5_tell_14 rfl (lv_at hl 1 rfl) ?_
    refine n_ald hx hb hK hP 2 rfl (k := jb) (by omega) (by decide) dX5_tell_15 ?_
    refine lv_istore_n (lv' := [(2, .int (U jb)), (0, .ref o), (1, .int (nI jb))]) hx hb dX5_tell_16 rfl hl (by decide) rfl (fun ls hl => ?_)
    refine lv_aload_n hx hb dX5_tell_17 rfl (lv_at hl 1 rfl) ?_
    refine g_get (v := .ref aki) hx hb hts ixX5_tell_X5 hown hK hP 0 rfl rfl 8 (by decide) lkX5_tell_22 rfl dX5_tell_18 ?_
    refine lv_iload_n hx hb dX5_tell_21 rfl (lv_at hl 2 rfl) ?_
    refine n_ald hx hb hK hP 1 rfl (k := jb) (by omega) (by decide) dX5_tell_22 ?_
    by_cases c2 : K jb = 1
    ·
      refine lv_lookup (tgt := 48) (off := 25) hx hb dX5_tell_23 (by decide) (by rw [c2]; decide) (by decide) ?_
      refine lv_aload_n hx hb dX5_tell_48 rfl (lv_at hl 1 rfl) ?_
      refine lv_iconst (v := nI 2) hx hb dX5_tell_49 (by decide) ?_
      refine wtV (As := [.int (nI 2)]) (rest := []) (ci := 5) (q0 := 0) hE (kX5_begins l G o ff ftr aso asl ace M B ape aki abo at_ rM rB arp ark arb fb fto R awh awn awm awk amo amu (nI 2) ) (cwV 1 hts gX5_tell_X5_begins rfl rfl rfl (by decide +kernel) ⟨Nat.le_of_ble_eq_true rfl, Nat.le_of_ble_eq_true rfl⟩) hP hK hD hS [0] (by decide) rfl rfl (W1 := [(o, .inr (5, [.int ff, .int (lt1 ftr (nI 2)), .ref aso, .ref asl, .ref ace, .int (nI M), .int (nI B), .ref ape, .ref aki, .ref abo, .int at_, .int rM, .int rB, .ref arp, .ref ark, .ref arb, .int fb, .int fto, .int (nI R), .ref awh, .ref awn, .ref awm, .ref awk, .ref amo, .ref amu])), (aki, aI G 4 K), (abo, aI G 4 U)]) rfl rfl rfl rfl hl.1 rfl (Nat.le_of_ble_eq_true rfl) dX5_tell_50 ⟨Nat.zero_le _, Nat.zero_le _⟩ (fun H locs hP hD hS => ?_)
      refine W.eq (g2 := F0 m 53 ls []) rfl ?_
      refine lv_aload_n hx hb dX5_tell_53 rfl (lv_at hl 1 rfl) ?_
      refine lv_iconst (v := nI 1) hx hb dX5_tell_54 (by decide) ?_
      refine wtV (As := [.int (nI 1)]) (rest := []) (ci := 5) (q0 := 0) hE (kX5_begins l G o ff (lt1 ftr (nI 2)) aso asl ace M B ape aki abo at_ rM rB arp ark arb fb fto R awh awn awm awk amo amu (nI 1) ) (cwV 1 hts gX5_tell_X5_begins rfl rfl rfl (by decide +kernel) ⟨Nat.le_of_ble_eq_true rfl, Nat.le_of_ble_eq_true rfl⟩) hP hK hD hS [0] (by decide) rfl rfl (W1 := [(o, .inr (5, [.int ff, .int (lt1 (lt1 ftr (nI 2)) (nI 1)), .ref aso, .ref asl, .ref ace, .int (nI M), .int (nI B), .ref ape, .ref aki, .ref abo, .int at_, .int rM, .int rB, .ref arp, .ref ark, .ref arb, .int fb, .int fto, .int (nI R), .ref awh, .ref awn, .ref awm, .ref awk, .ref amo, .ref amu])), (aki, aI G 4 K), (abo, aI G 4 U)]) rfl rfl rfl rfl hl.1 rfl (Nat.le_of_ble_eq_true rfl) dX5_tell_55 ⟨Nat.zero_le _, Nat.zero_le _⟩ (fun H locs hP hD hS => ?_)
      refine W.eq (g2 := F0 m 58 ls []) rfl ?_
      refine lv_iload_n hx hb dX5_tell_58 rfl (lv_at hl 0 rfl) ?_
      refine lv_bipush (v := nI 100) hx hb dX5_tell_59 (by decide) ?_
      refine lv_iadd hx hb dX5_tell_61 ?_
      exact hret _ _ _ _ _ (by first | with_reducible rfl | simp only [s_tell, t_tell, tel, trc, iF_t c1, iF_t c2, tn_nI (show jb < 2 ^ 31 by omega)]) (by first | exact hP | (simp only [s_tell, t_tell, tel, trc, iF_t c1, iF_t c2, tn_nI (show jb < 2 ^ 31 by omega)]; exact hP)) hS dX5_tell_62
    ·
      by_cases c3 : K jb = 2
      ·
        refine lv_lookup (tgt := 63) (off := 40) hx hb dX5_tell_23 (by decide) (by rw [c3]; decide) (by decide) ?_
        refine lv_aload_n hx hb dX5_tell_63 rfl (lv_at hl 1 rfl) ?_
        refine lv_iconst (v := nI 3) hx hb dX5_tell_64 (by decide) ?_
        refine wtV (As := [.int (nI 3)]) (rest := []) (ci := 5) (q0 := 0) hE (kX5_begins l G o ff ftr aso asl ace M B ape aki abo at_ rM rB arp ark arb fb fto R awh awn awm awk amo amu (nI 3) ) (cwV 1 hts gX5_tell_X5_begins rfl rfl rfl (by decide +kernel) ⟨Nat.le_of_ble_eq_true rfl, Nat.le_of_ble_eq_true rfl⟩) hP hK hD hS [0] (by decide) rfl rfl (W1 := [(o, .inr (5, [.int ff, .int (lt1 ftr (nI 3)), .ref aso, .ref asl, .ref ace, .int (nI M), .int (nI B), .ref ape, .ref aki, .ref abo, .int at_, .int rM, .int rB, .ref arp, .ref ark, .ref arb, .int fb, .int fto, .int (nI R), .ref awh, .ref awn, .ref awm, .ref awk, .ref amo, .ref amu])), (aki, aI G 4 K), (abo, aI G 4 U)]) rfl rfl rfl rfl hl.1 rfl (Nat.le_of_ble_eq_true rfl) dX5_tell_65 ⟨Nat.zero_le _, Nat.zero_le _⟩ (fun H locs hP hD hS => ?_)
        refine W.eq (g2 := F0 m 68 ls []) rfl ?_
        refine lv_aload_n hx hb dX5_tell_68 rfl (lv_at hl 1 rfl) ?_
        refine lv_iconst (v := nI 2) hx hb dX5_tell_69 (by decide) ?_
        refine wtV (As := [.int (nI 2)]) (rest := []) (ci := 5) (q0 := 0) hE (kX5_begins l G o ff (lt1 ftr (nI 3)) aso asl ace M B ape aki abo at_ rM rB arp ark arb fb fto R awh awn awm awk amo amu (nI 2) ) (cwV 1 hts gX5_tell_X5_begins rfl rfl rfl (by decide +kernel) ⟨Nat.le_of_ble_eq_true rfl, Nat.le_of_ble_eq_true rfl⟩) hP hK hD hS [0] (by decide) rfl rfl (W1 := [(o, .inr (5, [.int ff, .int (lt1 (lt1 ftr (nI 3)) (nI 2)), .ref aso, .ref asl, .ref ace, .int (nI M), .int (nI B), .ref ape, .ref aki, .ref abo, .int at_, .int rM, .int rB, .ref arp, .ref ark, .ref arb, .int fb, .int fto, .int (nI R), .ref awh, .ref awn, .ref awm, .ref awk, .ref amo, .ref amu])), (aki, aI G 4 K), (abo, aI G 4 U)]) rfl rfl rfl rfl hl.1 rfl (Nat.le_of_ble_eq_true rfl) dX5_tell_70 ⟨Nat.zero_le _, Nat.zero_le _⟩ (fun H locs hP hD hS => ?_)
        refine W.eq (g2 := F0 m 73 ls []) rfl ?_
        refine lv_aload_n hx hb dX5_tell_73 rfl (lv_at hl 1 rfl) ?_
        refine lv_iconst (v := nI 1) hx hb dX5_tell_74 (by decide) ?_
        refine wtV (As := [.int (nI 1)]) (rest := []) (ci := 5) (q0 := 0) hE (kX5_begins l G o ff (lt1 (lt1 ftr (nI 3)) (nI 2)) aso asl ace M B ape aki abo at_ rM rB arp ark arb fb fto R awh awn awm awk amo amu (nI 1) ) (cwV 1 hts gX5_tell_X5_begins rfl rfl rfl (by decide +kernel) ⟨Nat.le_of_ble_eq_true rfl, Nat.le_of_ble_eq_true rfl⟩) hP hK hD hS [0] (by decide) rfl rfl (W1 := [(o, .inr (5, [.int ff, .int (lt1 (lt1 (lt1 ftr (nI 3)) (nI 2)) (nI 1)), .ref aso, .ref asl, .ref ace, .int (nI M), .int (nI B), .ref ape, .ref aki, .ref abo, .int at_, .int rM, .int rB, .ref arp, .ref ark, .ref arb, .int fb, .int fto, .int (nI R), .ref awh, .ref awn, .ref awm, .ref awk, .ref amo, .ref amu])), (aki, aI G 4 K), (abo, aI G 4 U)]) rfl rfl rfl rfl hl.1 rfl (Nat.le_of_ble_eq_true rfl) dX5_tell_75 ⟨Nat.zero_le _, Nat.zero_le _⟩ (fun H locs hP hD hS => ?_)
        refine W.eq (g2 := F0 m 78 ls []) rfl ?_
        refine lv_aload_n hx hb dX5_tell_78 rfl (lv_at hl 1 rfl) ?_
        refine lv_iconst (v := nI 1) hx hb dX5_tell_79 (by decide) ?_
        refine wtV (As := [.int (nI 1)]) (rest := []) (ci := 5) (q0 := 0) hE (kX5_begins l G o ff (lt1 (lt1 (lt1 ftr (nI 3)) (nI 2)) (nI 1)) aso asl ace M B ape aki abo at_ rM rB arp ark arb fb fto R awh awn awm awk amo amu (nI 1) ) (cwV 1 hts gX5_tell_X5_begins rfl rfl rfl (by decide +kernel) ⟨Nat.le_of_ble_eq_true rfl, Nat.le_of_ble_eq_true rfl⟩) hP hK hD hS [0] (by decide) rfl rfl (W1 := [(o, .inr (5, [.int ff, .int (lt1 (lt1 (lt1 (lt1 ftr (nI 3)) (nI 2)) (nI 1)) (nI 1)), .ref aso, .ref asl, .ref ace, .int (nI M), .int (nI B), .ref ape, .ref aki, .ref abo, .int at_, .int rM, .int rB, .ref arp, .ref ark, .ref arb, .int fb, .int fto, .int (nI R), .ref awh, .ref awn, .ref awm, .ref awk, .ref amo, .ref amu])), (aki, aI G 4 K), (abo, aI G 4 U)]) rfl rfl rfl rfl hl.1 rfl (Nat.le_of_ble_eq_true rfl) dX5_tell_80 ⟨Nat.zero_le _, Nat.zero_le _⟩ (fun H locs hP hD hS => ?_)
        refine W.eq (g2 := F0 m 83 ls []) rfl ?_
        refine lv_iconst (v := nI 2) hx hb dX5_tell_83 (by decide) ?_
        refine lv_iload_n hx hb dX5_tell_84 rfl (lv_at hl 0 rfl) ?_
        refine lv_imul hx hb dX5_tell_85 ?_
        refine lv_bipush (v := nI 100) hx hb dX5_tell_86 (by decide) ?_
        refine lv_iadd hx hb dX5_tell_88 ?_
        exact hret _ _ _ _ _ ((tw_eq _).trans (by simp only [s_tell, t_tell, tel, trc, iF_t c1, iF_f c2, iF_t c3, tn_nI (show jb < 2 ^ 31 by omega)])) (by first | exact hP | (simp only [s_tell, t_tell, tel, trc, iF_t c1, iF_f c2, iF_t c3, tn_nI (show jb < 2 ^ 31 by omega)]; exact hP)) hS dX5_tell_89
      ·
        refine lv_lookup (tgt := 90) (off := 67) hx hb dX5_tell_23 (by decide) (by rw [lv_osw (k := 1) c2 (by decide), lv_osw (k := 2) c3 (by decide)]; rfl) (by decide) ?_
        refine lv_aload_n hx hb dX5_tell_90 rfl (lv_at hl 1 rfl) ?_
        refine lv_iconst (v := nI 1) hx hb dX5_tell_91 (by decide) ?_
        refine wtV (As := [.int (nI 1)]) (rest := []) (ci := 5) (q0 := 0) hE (kX5_begins l G o ff ftr aso asl ace M B ape aki abo at_ rM rB arp ark arb fb fto R awh awn awm awk amo amu (nI 1) ) (cwV 1 hts gX5_tell_X5_begins rfl rfl rfl (by decide +kernel) ⟨Nat.le_of_ble_eq_true rfl, Nat.le_of_ble_eq_true rfl⟩) hP hK hD hS [0] (by decide) rfl rfl (W1 := [(o, .inr (5, [.int ff, .int (lt1 ftr (nI 1)), .ref aso, .ref asl, .ref ace, .int (nI M), .int (nI B), .ref ape, .ref aki, .ref abo, .int at_, .int rM, .int rB, .ref arp, .ref ark, .ref arb, .int fb, .int fto, .int (nI R), .ref awh, .ref awn, .ref awm, .ref awk, .ref amo, .ref amu])), (aki, aI G 4 K), (abo, aI G 4 U)]) rfl rfl rfl rfl hl.1 rfl (Nat.le_of_ble_eq_true rfl) dX5_tell_92 ⟨Nat.zero_le _, Nat.zero_le _⟩ (fun H locs hP hD hS => ?_)
        refine W.eq (g2 := F0 m 95 ls []) rfl ?_
        refine lv_iload_n hx hb dX5_tell_95 rfl (lv_at hl 0 rfl) ?_
        exact hret _ _ _ _ _ (by first | with_reducible rfl | simp only [s_tell, t_tell, tel, trc, iF_t c1, iF_f c2, iF_f c3, tn_nI (show jb < 2 ^ 31 by omega)]) (by first | exact hP | (simp only [s_tell, t_tell, tel, trc, iF_t c1, iF_f c2, iF_f c3, tn_nI (show jb < 2 ^ 31 by omega)]; exact hP)) hS dX5_tell_96
  ·
    refine lv_iconst (v := (-1)) hx hb dX5_tell_8 (by decide) ?_
    exact hret _ _ _ _ _ (by first | with_reducible rfl | simp only [s_tell, t_tell, tel, trc, iF_f c1]) (by first | exact hP | (simp only [s_tell, t_tell, tel, trc, iF_f c1]; exact hP)) hS dX5_tell_9

theorem ixX5_call_X5 : ∀ w ∈ wsX50, w ∈ wsX5_call := fun _ h => List.mem_cons_of_mem _ (List.mem_append_right _ h)
theorem lkX5_call_22 : Cond.fieldLink RX5 22 (TX5 8).1 (TX5 8).2.1 (TX5 8).2.2.1 ∈ wsX5_call := List.mem_of_getElem? (i := 1) rfl
set_option maxHeartbeats 4000000 in
set_option maxRecDepth 100000 in
theorem kX5_call (l : Launch) (G : Gl) (o : Nat) (ff : Int32) (ftr : Int32) (aso : Nat) (asl : Nat) (ace : Nat) (M : Nat) (B : Nat) (ape : Nat) (aki : Nat) (abo : Nat) (at_ : Int32) (rM : Int32) (rB : Int32) (arp : Nat) (ark : Nat) (arb : Nat) (fb : Int32) (fto : Int32) (R : Nat) (awh : Nat) (awn : Nat) (awm : Nat) (awk : Nat) (amo : Nat) (amu : Nat) (K : Nat → Int32) (b : Int32) (hB : B ≤ 4) : Wt l G yX5_call wsX5_call ({ frames := 1, cells := 0, slots := 0, locals := 21 } : Room) [.ref o, .int b] [(o, .inr (5, [.int ff, .int ftr, .ref aso, .ref asl, .ref ace, .int (nI M), .int (nI B), .ref ape, .ref aki, .ref abo, .int at_, .int rM, .int rB, .ref arp, .ref ark, .ref arb, .int fb, .int fto, .int (nI R), .ref awh, .ref awn, .ref awm, .ref awk, .ref amo, .ref amu])), (aki, aI G 4 K)] [(o, .inr (5, [.int ff, .int (t_call B K ftr b), .ref aso, .ref asl, .ref ace, .int (nI M), .int (nI B), .ref ape, .ref aki, .ref abo, .int at_, .int rM, .int rB, .ref arp, .ref ark, .ref arb, .int fb, .int fto, .int (nI R), .ref awh, .ref awn, .ref awm, .ref awk, .ref amo, .ref amu])), (aki, aI G 4 K)] (some (.int (s_call B K b))) := by
  refine Wt.ofI (cc := cX5_call) (maxL := 2) (by decide) rfl (Nat.le_of_ble_eq_true rfl) ?_
  intro p e s m below meth c Q A ls hE hP hK hD hS hl hret
  obtain ⟨hx, hb, hml, hown, hts⟩ := id hE
  have hl : lv_has ls 2 [(0, .ref o), (1, .int b)] := hl
  refine lv_aload_n hx hb dX5_call_0 rfl (lv_at hl 0 rfl) ?_
  refine lv_iload_n hx hb dX5_call_1 rfl (lv_at hl 1 rfl) ?_
  refine rdV (As := [.int b]) (rest := []) (ci := 5) (q0 := 0) hE (kX5_isBoy l G o ff ftr aso asl ace M B ape aki abo at_ rM rB arp ark arb fb fto R awh awn awm awk amo amu b hB) (cwV 1 hts gX5_call_X5_isBoy rfl rfl rfl (by decide +kernel) ⟨Nat.le_of_ble_eq_true rfl, Nat.le_of_ble_eq_true rfl⟩) hP hK [0] rfl rfl rfl rfl hl.1 rfl (Nat.le_of_ble_eq_true rfl) dX5_call_2 ⟨Nat.zero_le _, Nat.zero_le _⟩ ?_
  refine W.eq (g2 := F0 m 5 ls [.int (bI (vp_in b B))]) rfl ?_
  refine bz_ne (tgt := 10) hx hb dX5_call_5 (by decide) (fun c1 => ?_) (fun c1 => ?_)
  ·
    obtain ⟨jb, hjb, rfl⟩ := vp_in_of c1 (by omega)
    refine lv_aload_n hx hb dX5_call_10 rfl (lv_at hl 0 rfl) ?_
    refine lv_aload_n hx hb dX5_call_11 rfl (lv_at hl 0 rfl) ?_
    refine g_get (v := .ref aki) hx hb hts ixX5_call_X5 hown hK hP 0 rfl rfl 8 (by decide) lkX5_call_22 rfl dX5_call_12 ?_
    refine lv_iload_n hx hb dX5_call_15 rfl (lv_at hl 1 rfl) ?_
    refine n_ald hx hb hK hP 1 rfl (k := jb) (by omega) (by decide) dX5_call_16 ?_
    refine lv_iconst (v := nI 2) hx hb dX5_call_17 (by decide) ?_
    refine lv_icmp_ne (tgt := 25) hx hb dX5_call_18 (by decide) (fun c2 => ?_) (fun c2 => ?_)
    ·
      refine lv_iconst (v := nI 4) hx hb dX5_call_25 (by decide) ?_
      refine wtV (As := [.int (nI 4)]) (rest := []) (ci := 5) (q0 := 0) hE (kX5_begins l G o ff ftr aso asl ace M B ape aki abo at_ rM rB arp ark arb fb fto R awh awn awm awk amo amu (nI 4) ) (cwV 1 hts gX5_call_X5_begins rfl rfl rfl (by decide +kernel) ⟨Nat.le_of_ble_eq_true rfl, Nat.le_of_ble_eq_true rfl⟩) hP hK hD hS [0] (by decide) rfl rfl (W1 := [(o, .inr (5, [.int ff, .int (lt1 ftr (nI 4)), .ref aso, .ref asl, .ref ace, .int (nI M), .int (nI B), .ref ape, .ref aki, .ref abo, .int at_, .int rM, .int rB, .ref arp, .ref ark, .ref arb, .int fb, .int fto, .int (nI R), .ref awh, .ref awn, .ref awm, .ref awk, .ref amo, .ref amu])), (aki, aI G 4 K)]) rfl rfl rfl rfl hl.1 rfl (Nat.le_of_ble_eq_true rfl) dX5_call_26 ⟨Nat.zero_le _, Nat.zero_le _⟩ (fun H locs hP hD hS => ?_)
      refine W.eq (g2 := F0 m 29 ls []) rfl ?_
      refine lv_aload_n hx hb dX5_call_29 rfl (lv_at hl 0 rfl) ?_
      refine g_get (v := .ref aki) hx hb hts ixX5_call_X5 hown hK hP 0 rfl rfl 8 (by decide) lkX5_call_22 rfl dX5_call_30 ?_
      refine lv_iload_n hx hb dX5_call_33 rfl (lv_at hl 1 rfl) ?_
      refine n_ald hx hb hK hP 1 rfl (k := jb) (by omega) (by decide) dX5_call_34 ?_
      refine lv_iconst (v := nI 2) hx hb dX5_call_35 (by decide) ?_
      refine lv_icmp_ne (tgt := 44) hx hb dX5_call_36 (by decide) (fun c3 => ?_) (fun c3 => ?_)
      ·
        refine lv_iload_n hx hb dX5_call_44 rfl (lv_at hl 1 rfl) ?_
        exact hret _ _ _ _ _ (by first | with_reducible rfl | simp only [s_call, t_call, iF_t c1, iF_f c2, iF_f (show ¬ K jb = 2 from c2), iF_f c3, iF_f (show ¬ K jb = 2 from c3), tn_nI (show jb < 2 ^ 31 by omega)]) (by first | exact hP | (simp only [s_call, t_call, iF_t c1, iF_f c2, iF_f (show ¬ K jb = 2 from c2), iF_f c3, iF_f (show ¬ K jb = 2 from c3), tn_nI (show jb < 2 ^ 31 by omega)]; exact hP)) hS dX5_call_45
      ·
        refine lv_bipush (v := nI 20) hx hb dX5_call_39 (by decide) ?_
        refine lv_goto (tgt := 45) hx hb dX5_call_41 (by decide) ?_
        exact hret _ _ _ _ _ (by first | with_reducible rfl | simp only [s_call, t_call, iF_t c1, iF_f c2, iF_f (show ¬ K jb = 2 from c2), iF_t c3, iF_t (show K jb = 2 from c3), tn_nI (show jb < 2 ^ 31 by omega)]) (by first | exact hP | (simp only [s_call, t_call, iF_t c1, iF_f c2, iF_f (show ¬ K jb = 2 from c2), iF_t c3, iF_t (show K jb = 2 from c3), tn_nI (show jb < 2 ^ 31 by omega)]; exact hP)) hS dX5_call_45
    ·
      refine lv_iconst (v := nI 5) hx hb dX5_call_21 (by decide) ?_
      refine lv_goto (tgt := 26) hx hb dX5_call_22 (by decide) ?_
      refine wtV (As := [.int (nI 5)]) (rest := []) (ci := 5) (q0 := 0) hE (kX5_begins l G o ff ftr aso asl ace M B ape aki abo at_ rM rB arp ark arb fb fto R awh awn awm awk amo amu (nI 5) ) (cwV 1 hts gX5_call_X5_begins rfl rfl rfl (by decide +kernel) ⟨Nat.le_of_ble_eq_true rfl, Nat.le_of_ble_eq_true rfl⟩) hP hK hD hS [0] (by decide) rfl rfl (W1 := [(o, .inr (5, [.int ff, .int (lt1 ftr (nI 5)), .ref aso, .ref asl, .ref ace, .int (nI M), .int (nI B), .ref ape, .ref aki, .ref abo, .int at_, .int rM, .int rB, .ref arp, .ref ark, .ref arb, .int fb, .int fto, .int (nI R), .ref awh, .ref awn, .ref awm, .ref awk, .ref amo, .ref amu])), (aki, aI G 4 K)]) rfl rfl rfl rfl hl.1 rfl (Nat.le_of_ble_eq_true rfl) dX5_call_26 ⟨Nat.zero_le _, Nat.zero_le _⟩ (fun H locs hP hD hS => ?_)
      refine W.eq (g2 := F0 m 29 ls []) rfl ?_
      refine lv_aload_n hx hb dX5_call_29 rfl (lv_at hl 0 rfl) ?_
      refine g_get (v := .ref aki) hx hb hts ixX5_call_X5 hown hK hP 0 rfl rfl 8 (by decide) lkX5_call_22 rfl dX5_call_30 ?_
      refine lv_iload_n hx hb dX5_call_33 rfl (lv_at hl 1 rfl) ?_
      refine n_ald hx hb hK hP 1 rfl (k := jb) (by omega) (by decide) dX5_call_34 ?_
      refine lv_iconst (v := nI 2) hx hb dX5_call_35 (by decide) ?_
      refine lv_icmp_ne (tgt := 44) hx hb dX5_call_36 (by decide) (fun c4 => ?_) (fun c4 => ?_)
      ·
        refine lv_iload_n hx hb dX5_call_44 rfl (lv_at hl 1 rfl) ?_
        exact hret _ _ _ _ _ (by first | with_reducible rfl | simp only [s_call, t_call, iF_t c1, iF_t c2, iF_t (show K jb = 2 from c2), iF_f c4, iF_f (show ¬ K jb = 2 from c4), tn_nI (show jb < 2 ^ 31 by omega)]) (by first | exact hP | (simp only [s_call, t_call, iF_t c1, iF_t c2, iF_t (show K jb = 2 from c2), iF_f c4, iF_f (show ¬ K jb = 2 from c4), tn_nI (show jb < 2 ^ 31 by omega)]; exact hP)) hS dX5_call_45
      ·
        refine lv_bipush (v := nI 20) hx hb dX5_call_39 (by decide) ?_
        refine lv_goto (tgt := 45) hx hb dX5_call_41 (by decide) ?_
        exact hret _ _ _ _ _ (by first | with_reducible rfl | simp only [s_call, t_call, iF_t c1, iF_t c2, iF_t (show K jb = 2 from c2), iF_t c4, iF_t (show K jb = 2 from c4), tn_nI (show jb < 2 ^ 31 by omega)]) (by first | exact hP | (simp only [s_call, t_call, iF_t c1, iF_t c2, iF_t (show K jb = 2 from c2), iF_t c4, iF_t (show K jb = 2 from c4), tn_nI (show jb < 2 ^ 31 by omega)]; exact hP)) hS dX5_call_45
  ·
    refine lv_iconst (v := (-1)) hx hb dX5_call_8 (by decide) ?_
    exact hret _ _ _ _ _ (by first | with_reducible rfl | simp only [s_call, t_call, iF_f c1]) (by first | exact hP | (simp only [s_call, t_call, iF_f c1]; exact hP)) hS dX5_call_9

theorem ixX5_as_X5 : ∀ w ∈ wsX50, w ∈ wsX5_as := fun _ h => List.mem_cons_of_mem _ (List.mem_append_right _ h)
theorem lkX5_as_55 : Cond.fieldLink RX5 55 (TX5 0).1 (TX5 0).2.1 (TX5 0).2.2.1 ∈ wsX5_as := List.mem_of_getElem? (i := 1) rfl
theorem lkX5_as_22 : Cond.fieldLink RX5 22 (TX5 8).1 (TX5 8).2.1 (TX5 8).2.2.1 ∈ wsX5_as := List.mem_of_getElem? (i := 2) rfl
set_option maxHeartbeats 4000000 in
set_option maxRecDepth 100000 in
theorem kX5_as (l : Launch) (G : Gl) (o : Nat) (ff : Int32) (ftr : Int32) (aso : Nat) (asl : Nat) (ace : Nat) (M : Nat) (B : Nat) (ape : Nat) (aki : Nat) (abo : Nat) (at_ : Int32) (rM : Int32) (rB : Int32) (arp : Nat) (ark : Nat) (arb : Nat) (fb : Int32) (fto : Int32) (R : Nat) (awh : Nat) (awn : Nat) (awm : Nat) (awk : Nat) (amo : Nat) (amu : Nat) (K : Nat → Int32) (b : Int32) (k : Int32) (hB : B ≤ 4) : Wt l G yX5_as wsX5_as ({ frames := 1, cells := 0, slots := 0, locals := 22 } : Room) [.ref o, .int b, .int k] [(o, .inr (5, [.int ff, .int ftr, .ref aso, .ref asl, .ref ace, .int (nI M), .int (nI B), .ref ape, .ref aki, .ref abo, .int at_, .int rM, .int rB, .ref arp, .ref ark, .ref arb, .int fb, .int fto, .int (nI R), .ref awh, .ref awn, .ref awm, .ref awk, .ref amo, .ref amu])), (aki, aI G 4 K)] [(o, .inr (5, [.int (f_as B K b k), .int ftr, .ref aso, .ref asl, .ref ace, .int (nI M), .int (nI B), .ref ape, .ref aki, .ref abo, .int at_, .int rM, .int rB, .ref arp, .ref ark, .ref arb, .int fb, .int fto, .int (nI R), .ref awh, .ref awn, .ref awm, .ref awk, .ref amo, .ref amu])), (aki, aI G 4 K)] (some (.int (s_as B K b k))) := by
  refine Wt.ofI (cc := cX5_as) (maxL := 3) (by decide) rfl (Nat.le_of_ble_eq_true rfl) ?_
  intro p e s m below meth c Q A ls hE hP hK hD hS hl hret
  obtain ⟨hx, hb, hml, hown, hts⟩ := id hE
  have hl : lv_has ls 3 [(0, .ref o), (1, .int b), (2, .int k)] := hl
  refine lv_aload_n hx hb dX5_as_0 rfl (lv_at hl 0 rfl) ?_
  refine lv_iconst (v := nI 0) hx hb dX5_as_1 (by decide) ?_
  refine g_put (v := (nI 0)) hx hb hts ixX5_as_X5 tyX5 tyX5_ok nmX5 hown hK hP hD hS 0 rfl rfl 0 (by decide) lkX5_as_55 rfl rfl (by simp only [List.length_cons, List.length_nil]; omega) dX5_as_2 (fun H locs hP hD hS => ?_)
  have hP : va_P G.1 vwCl [(o, .inr (5, [.int (nI 0), .int ftr, .ref aso, .ref asl, .ref ace, .int (nI M), .int (nI B), .ref ape, .ref aki, .ref abo, .int at_, .int rM, .int rB, .ref arp, .ref ark, .ref arb, .int fb, .int fto, .int (nI R), .ref awh, .ref awn, .ref awm, .ref awk, .ref amo, .ref amu])), (aki, aI G 4 K)] H := hP
  have hD : va_D A [(o, .inr (5, [.int (nI 0), .int ftr, .ref aso, .ref asl, .ref ace, .int (nI M), .int (nI B), .ref ape, .ref aki, .ref abo, .int at_, .int rM, .int rB, .ref arp, .ref ark, .ref arb, .int fb, .int fto, .int (nI R), .ref awh, .ref awn, .ref awm, .ref awk, .ref amo, .ref amu])), (aki, aI G 4 K)] := hD
  refine lv_aload_n hx hb dX5_as_5 rfl (lv_at hl 0 rfl) ?_
  refine lv_iload_n hx hb dX5_as_6 rfl (lv_at hl 1 rfl) ?_
  refine rdV (As := [.int b]) (rest := []) (ci := 5) (q0 := 0) hE (kX5_isBoy l G o (nI 0) ftr aso asl ace M B ape aki abo at_ rM rB arp ark arb fb fto R awh awn awm awk amo amu b hB) (cwV 1 hts gX5_as_X5_isBoy rfl rfl rfl (by decide +kernel) ⟨Nat.le_of_ble_eq_true rfl, Nat.le_of_ble_eq_true rfl⟩) hP hK [0] rfl rfl rfl rfl hl.1 rfl (Nat.le_of_ble_eq_true rfl) dX5_as_7 ⟨Nat.zero_le _, Nat.zero_le _⟩ ?_
  refine W.eq (g2 := F0 m 10 ls [.int (bI (vp_in b B))]) rfl ?_
  refine bz_ne (tgt := 15) hx hb dX5_as_10 (by decide) (fun c1 => ?_) (fun c1 => ?_)
  ·
    obtain ⟨jb, hjb, rfl⟩ := vp_in_of c1 (by omega)
    refine lv_iload_n hx hb dX5_as_15 rfl (lv_at hl 2 rfl) ?_
    refine lv_iconst (v := nI 0) hx hb dX5_as_16 (by decide) ?_
    refine lv_iconst (v := nI 2) hx hb dX5_as_17 (by decide) ?_
    refine rdS (As := [.int k, .int (nI 0), .int (nI 2)]) (rest := []) hE (kX5_within0 l G k 2 (by first | omega | assumption)) (va_cwS 3 hts gX5_as_X5_within rfl rfl rfl (by decide +kernel) ⟨Nat.le_of_ble_eq_true rfl, Nat.le_of_ble_eq_true rfl⟩) hP hK [] rfl rfl hl.1 rfl (Nat.le_of_ble_eq_true rfl) dX5_as_18 ⟨Nat.zero_le _, Nat.zero_le _⟩ ?_
    refine W.eq (g2 := F0 m 21 ls [.int (bI (vp_in k (2 + 1)))]) rfl ?_
    refine bz_ne (tgt := 27) hx hb dX5_as_21 (by decide) (fun c2 => ?_) (fun c2 => ?_)
    ·
      refine lv_aload_n hx hb dX5_as_27 rfl (lv_at hl 0 rfl) ?_
      refine g_get (v := .ref aki) hx hb hts ixX5_as_X5 hown hK hP 0 rfl rfl 8 (by decide) lkX5_as_22 rfl dX5_as_28 ?_
      refine lv_iload_n hx hb dX5_as_31 rfl (lv_at hl 1 rfl) ?_
      refine n_ald hx hb hK hP 1 rfl (k := jb) (by omega) (by decide) dX5_as_32 ?_
      refine lv_iload_n hx hb dX5_as_33 rfl (lv_at hl 2 rfl) ?_
      refine lv_icmp_lt (tgt := 41) hx hb dX5_as_34 (by decide) (fun c3 => ?_) (fun c3 => ?_)
      ·
        refine lv_aload_n hx hb dX5_as_41 rfl (lv_at hl 0 rfl) ?_
        refine lv_iconst (v := nI 2) hx hb dX5_as_42 (by decide) ?_
        refine wtV (As := [.int (nI 2)]) (rest := []) (ci := 5) (q0 := 0) hE (kX5_fails l G o (nI 0) ftr aso asl ace M B ape aki abo at_ rM rB arp ark arb fb fto R awh awn awm awk amo amu (nI 2) ) (cwV 1 hts gX5_as_X5_fails rfl rfl rfl (by decide +kernel) ⟨Nat.le_of_ble_eq_true rfl, Nat.le_of_ble_eq_true rfl⟩) hP hK hD hS [0] (by decide) rfl rfl (W1 := [(o, .inr (5, [.int (nI 2), .int ftr, .ref aso, .ref asl, .ref ace, .int (nI M), .int (nI B), .ref ape, .ref aki, .ref abo, .int at_, .int rM, .int rB, .ref arp, .ref ark, .ref arb, .int fb, .int fto, .int (nI R), .ref awh, .ref awn, .ref awm, .ref awk, .ref amo, .ref amu])), (aki, aI G 4 K)]) rfl rfl rfl rfl hl.1 rfl (Nat.le_of_ble_eq_true rfl) dX5_as_43 ⟨Nat.zero_le _, Nat.zero_le _⟩ (fun H locs hP hD hS => ?_)
        refine W.eq (g2 := F0 m 46 ls [.int ((-10) - (nI 2))]) rfl ?_
        exact hret _ _ _ _ _ (by first | with_reducible rfl | simp only [s_as, f_as, iF_t c1, iF_t c2, iF_t c3, iF_f (i32_lt c3), tn_nI (show jb < 2 ^ 31 by omega)]) (by first | exact hP | (simp only [s_as, f_as, iF_t c1, iF_t c2, iF_t c3, iF_f (i32_lt c3), tn_nI (show jb < 2 ^ 31 by omega)]; exact hP)) hS dX5_as_46
      ·
        refine lv_iconst (v := nI 1) hx hb dX5_as_37 (by decide) ?_
        refine lv_goto (tgt := 46) hx hb dX5_as_38 (by decide) ?_
        exact hret _ _ _ _ _ (by first | with_reducible rfl | simp only [s_as, f_as, iF_t c1, iF_t c2, iF_f c3, iF_t (i32_nlt c3), tn_nI (show jb < 2 ^ 31 by omega)]) (by first | exact hP | (simp only [s_as, f_as, iF_t c1, iF_t c2, iF_f c3, iF_t (i32_nlt c3), tn_nI (show jb < 2 ^ 31 by omega)]; exact hP)) hS dX5_as_46
    ·
      refine lv_bipush (v := (-2)) hx hb dX5_as_24 (by decide) ?_
      exact hret _ _ _ _ _ (by first | with_reducible rfl | simp only [s_as, f_as, iF_t c1, iF_f c2, tn_nI (show jb < 2 ^ 31 by omega)]) (by first | exact hP | (simp only [s_as, f_as, iF_t c1, iF_f c2, tn_nI (show jb < 2 ^ 31 by omega)]; exact hP)) hS dX5_as_26
  ·
    refine lv_iconst (v := (-1)) hx hb dX5_as_13 (by decide) ?_
    exact hret _ _ _ _ _ (by first | with_reducible rfl | simp only [s_as, f_as, iF_f c1]) (by first | exact hP | (simp only [s_as, f_as, iF_f c1]; exact hP)) hS dX5_as_14
