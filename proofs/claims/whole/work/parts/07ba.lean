theorem ixX5_isSign_X5 : ∀ w ∈ wsX50, w ∈ wsX5_isSign := fun _ h => List.mem_cons_of_mem _ (List.mem_append_right _ h)
theorem lkX5_isSign_71 : Cond.fieldLink RX5 71 (TX5 10).1 (TX5 10).2.1 (TX5 10).2.2.1 ∈ wsX5_isSign := List.mem_of_getElem? (i := 1) rfl
theorem lkX5_isSign_16 : Cond.fieldLink RX5 16 (TX5 4).1 (TX5 4).2.1 (TX5 4).2.2.1 ∈ wsX5_isSign := List.mem_of_getElem? (i := 2) rfl
set_option maxHeartbeats 4000000 in
set_option maxRecDepth 100000 in
theorem kX5_isSigny (l : Launch) (G : Gl) (o : Nat) (ff : Int32) (ftr : Int32) (aso : Nat) (asl : Nat) (ace : Nat) (M : Nat) (B : Nat) (ape : Nat) (aki : Nat) (abo : Nat) (rM : Int32) (rB : Int32) (arp : Nat) (ark : Nat) (arb : Nat) (fb : Int32) (fto : Int32) (R : Nat) (awh : Nat) (awn : Nat) (awm : Nat) (awk : Nat) (amo : Nat) (amu : Nat) (CE : Nat → Int32) (q : Nat) (z : Nat) (cd : Nat) (hq : q < z) (hz2 : z ≤ 240) (hc9 : CE q = nI cd) : Wt l G yX5_isSign wsX5_isSign ({ frames := 0, cells := 0, slots := 0, locals := 0 } : Room) [.ref o, .int (nI z), .int (nI cd)] [(o, .inr (5, [.int ff, .int ftr, .ref aso, .ref asl, .ref ace, .int (nI M), .int (nI B), .ref ape, .ref aki, .ref abo, .int (nI q), .int rM, .int rB, .ref arp, .ref ark, .ref arb, .int fb, .int fto, .int (nI R), .ref awh, .ref awn, .ref awm, .ref awk, .ref amo, .ref amu])), (ace, aI G 240 CE)] [(o, .inr (5, [.int ff, .int ftr, .ref aso, .ref asl, .ref ace, .int (nI M), .int (nI B), .ref ape, .ref aki, .ref abo, .int (nI (q + 1)), .int rM, .int rB, .ref arp, .ref ark, .ref arb, .int fb, .int fto, .int (nI R), .ref awh, .ref awn, .ref awm, .ref awk, .ref amo, .ref amu])), (ace, aI G 240 CE)] (some (.int (bI True))) := by
  refine Wt.ofZ (cc := cX5_isSign) (maxL := 3) (by decide) rfl (Nat.le_of_ble_eq_true rfl) ?_
  intro p e s m below meth c Q A ls hE hP hK hD hS hl hret
  obtain ⟨hx, hb, hml, hown, hts⟩ := id hE
  have hl : lv_has ls 3 [(0, .ref o), (1, .int (nI z)), (2, .int (nI cd))] := hl
  refine lv_aload_n hx hb dX5_isSign_0 rfl (lv_at hl 0 rfl) ?_
  refine g_get (v := .int (nI q)) hx hb hts ixX5_isSign_X5 hown hK hP 0 rfl rfl 10 (by decide) lkX5_isSign_71 rfl dX5_isSign_1 ?_
  refine lv_iload_n hx hb dX5_isSign_4 rfl (lv_at hl 1 rfl) ?_
  refine ic_ge (tgt := 21) hx hb (by omega) (by omega) dX5_isSign_5 (by decide) (fun c1 => ?_) (fun c1 => ?_)
  ·
    omega
  ·
    refine lv_aload_n hx hb dX5_isSign_8 rfl (lv_at hl 0 rfl) ?_
    refine g_get (v := .ref ace) hx hb hts ixX5_isSign_X5 hown hK hP 0 rfl rfl 4 (by decide) lkX5_isSign_16 rfl dX5_isSign_9 ?_
    refine lv_aload_n hx hb dX5_isSign_12 rfl (lv_at hl 0 rfl) ?_
    refine g_get (v := .int (nI q)) hx hb hts ixX5_isSign_X5 hown hK hP 0 rfl rfl 10 (by decide) lkX5_isSign_71 rfl dX5_isSign_13 ?_
    refine n_ald hx hb hK hP 1 rfl (k := q) (by omega) (by decide) dX5_isSign_16 ?_
    refine lv_iload_n hx hb dX5_isSign_17 rfl (lv_at hl 2 rfl) ?_
    refine lv_icmp_eq (tgt := 23) hx hb dX5_isSign_18 (by decide) (fun c2 => ?_) (fun c2 => ?_)
    ·
      refine lv_aload_n hx hb dX5_isSign_23 rfl (lv_at hl 0 rfl) ?_
      refine lv_dup hx hb dX5_isSign_24 rfl ?_
      refine g_get (v := .int (nI q)) hx hb hts ixX5_isSign_X5 hown hK hP 0 rfl rfl 10 (by decide) lkX5_isSign_71 rfl dX5_isSign_25 ?_
      refine lv_iconst (v := nI 1) hx hb dX5_isSign_28 (by decide) ?_
      refine lv_iadd hx hb dX5_isSign_29 ?_
      refine lv_tope (show (nI q) + (nI 1) = nI (q + 1) from nI_add _ _) ?_
      refine g_put (v := (nI (q + 1))) hx hb hts ixX5_isSign_X5 tyX5 tyX5_ok nmX5 hown hK hP hD hS 0 rfl rfl 10 (by decide) lkX5_isSign_71 rfl rfl (Nat.le_of_ble_eq_true rfl) dX5_isSign_30 (fun H locs hP hD hS => ?_)
      have hP : va_P G.1 vwCl [(o, .inr (5, [.int ff, .int ftr, .ref aso, .ref asl, .ref ace, .int (nI M), .int (nI B), .ref ape, .ref aki, .ref abo, .int (nI (q + 1)), .int rM, .int rB, .ref arp, .ref ark, .ref arb, .int fb, .int fto, .int (nI R), .ref awh, .ref awn, .ref awm, .ref awk, .ref amo, .ref amu])), (ace, aI G 240 CE)] H := hP
      have hD : va_D A [(o, .inr (5, [.int ff, .int ftr, .ref aso, .ref asl, .ref ace, .int (nI M), .int (nI B), .ref ape, .ref aki, .ref abo, .int (nI (q + 1)), .int rM, .int rB, .ref arp, .ref ark, .ref arb, .int fb, .int fto, .int (nI R), .ref awh, .ref awn, .ref awm, .ref awk, .ref amo, .ref amu])), (ace, aI G 240 CE)] := hD
      refine lv_iconst (v := nI 1) hx hb dX5_isSign_33 (by decide) ?_
      exact hret _ _ _ _ _ ((bI_t True.intro).symm) (hP) hS dX5_isSign_34
    ·
      exact absurd hc9 c2

set_option maxHeartbeats 4000000 in
set_option maxRecDepth 100000 in
theorem kX5_isSignn (l : Launch) (G : Gl) (o : Nat) (ff : Int32) (ftr : Int32) (aso : Nat) (asl : Nat) (ace : Nat) (M : Nat) (B : Nat) (ape : Nat) (aki : Nat) (abo : Nat) (rM : Int32) (rB : Int32) (arp : Nat) (ark : Nat) (arb : Nat) (fb : Int32) (fto : Int32) (R : Nat) (awh : Nat) (awn : Nat) (awm : Nat) (awk : Nat) (amo : Nat) (amu : Nat) (CE : Nat → Int32) (q : Nat) (z : Nat) (cd : Nat) (hno : ¬ (q < z ∧ CE q = nI cd)) (hz2 : z ≤ 240) (hqz : q ≤ 240) : Wt l G yX5_isSign wsX5_isSign ({ frames := 0, cells := 0, slots := 0, locals := 0 } : Room) [.ref o, .int (nI z), .int (nI cd)] [(o, .inr (5, [.int ff, .int ftr, .ref aso, .ref asl, .ref ace, .int (nI M), .int (nI B), .ref ape, .ref aki, .ref abo, .int (nI q), .int rM, .int rB, .ref arp, .ref ark, .ref arb, .int fb, .int fto, .int (nI R), .ref awh, .ref awn, .ref awm, .ref awk, .ref amo, .ref amu])), (ace, aI G 240 CE)] [(o, .inr (5, [.int ff, .int ftr, .ref aso, .ref asl, .ref ace, .int (nI M), .int (nI B), .ref ape, .ref aki, .ref abo, .int (nI q), .int rM, .int rB, .ref arp, .ref ark, .ref arb, .int fb, .int fto, .int (nI R), .ref awh, .ref awn, .ref awm, .ref awk, .ref amo, .ref amu])), (ace, aI G 240 CE)] (some (.int (bI False))) := by
  refine Wt.ofZ (cc := cX5_isSign) (maxL := 3) (by decide) rfl (Nat.le_of_ble_eq_true rfl) ?_
  intro p e s m below meth c Q A ls hE hP hK hD hS hl hret
  obtain ⟨hx, hb, hml, hown, hts⟩ := id hE
  have hl : lv_has ls 3 [(0, .ref o), (1, .int (nI z)), (2, .int (nI cd))] := hl
  refine lv_aload_n hx hb dX5_isSign_0 rfl (lv_at hl 0 rfl) ?_
  refine g_get (v := .int (nI q)) hx hb hts ixX5_isSign_X5 hown hK hP 0 rfl rfl 10 (by decide) lkX5_isSign_71 rfl dX5_isSign_1 ?_
  refine lv_iload_n hx hb dX5_isSign_4 rfl (lv_at hl 1 rfl) ?_
  refine ic_ge (tgt := 21) hx hb (by omega) (by omega) dX5_isSign_5 (by decide) (fun c1 => ?_) (fun c1 => ?_)
  ·
    refine lv_iconst (v := nI 0) hx hb dX5_isSign_21 (by decide) ?_
    exact hret _ _ _ _ _ ((bI_f id).symm) (hP) hS dX5_isSign_22
  ·
    refine lv_aload_n hx hb dX5_isSign_8 rfl (lv_at hl 0 rfl) ?_
    refine g_get (v := .ref ace) hx hb hts ixX5_isSign_X5 hown hK hP 0 rfl rfl 4 (by decide) lkX5_isSign_16 rfl dX5_isSign_9 ?_
    refine lv_aload_n hx hb dX5_isSign_12 rfl (lv_at hl 0 rfl) ?_
    refine g_get (v := .int (nI q)) hx hb hts ixX5_isSign_X5 hown hK hP 0 rfl rfl 10 (by decide) lkX5_isSign_71 rfl dX5_isSign_13 ?_
    refine n_ald hx hb hK hP 1 rfl (k := q) (by omega) (by decide) dX5_isSign_16 ?_
    refine lv_iload_n hx hb dX5_isSign_17 rfl (lv_at hl 2 rfl) ?_
    refine lv_icmp_eq (tgt := 23) hx hb dX5_isSign_18 (by decide) (fun c2 => ?_) (fun c2 => ?_)
    ·
      exact absurd ⟨by omega, c2⟩ hno
    ·
      refine lv_iconst (v := nI 0) hx hb dX5_isSign_21 (by decide) ?_
      exact hret _ _ _ _ _ ((bI_f id).symm) (hP) hS dX5_isSign_22

theorem ixX5_digit_X5 : ∀ w ∈ wsX50, w ∈ wsX5_digit := fun _ h => List.mem_cons_of_mem _ (List.mem_append_right _ h)
theorem lkX5_digit_71 : Cond.fieldLink RX5 71 (TX5 10).1 (TX5 10).2.1 (TX5 10).2.2.1 ∈ wsX5_digit := List.mem_of_getElem? (i := 1) rfl
theorem lkX5_digit_16 : Cond.fieldLink RX5 16 (TX5 4).1 (TX5 4).2.1 (TX5 4).2.2.1 ∈ wsX5_digit := List.mem_of_getElem? (i := 2) rfl
set_option maxHeartbeats 4000000 in
set_option maxRecDepth 100000 in
theorem kX5_digity (l : Launch) (G : Gl) (o : Nat) (ff : Int32) (ftr : Int32) (aso : Nat) (asl : Nat) (ace : Nat) (M : Nat) (B : Nat) (ape : Nat) (aki : Nat) (abo : Nat) (rM : Int32) (rB : Int32) (arp : Nat) (ark : Nat) (arb : Nat) (fb : Int32) (fto : Int32) (R : Nat) (awh : Nat) (awn : Nat) (awm : Nat) (awk : Nat) (amo : Nat) (amu : Nat) (CE : Nat → Int32) (q : Nat) (z : Nat) (lo : Nat) (hi : Nat) (hq : q < z) (hz2 : z ≤ 240) (hd9 : dgt (CE q) lo hi) (hlo : lo ≤ 9) (hhi : hi ≤ 9) : Wt l G yX5_digit wsX5_digit ({ frames := 1, cells := 0, slots := 0, locals := 22 } : Room) [.ref o, .int (nI z), .int (nI lo), .int (nI hi)] [(o, .inr (5, [.int ff, .int ftr, .ref aso, .ref asl, .ref ace, .int (nI M), .int (nI B), .ref ape, .ref aki, .ref abo, .int (nI q), .int rM, .int rB, .ref arp, .ref ark, .ref arb, .int fb, .int fto, .int (nI R), .ref awh, .ref awn, .ref awm, .ref awk, .ref amo, .ref amu])), (ace, aI G 240 CE)] [(o, .inr (5, [.int ff, .int ftr, .ref aso, .ref asl, .ref ace, .int (nI M), .int (nI B), .ref ape, .ref aki, .ref abo, .int (nI (q + 1)), .int rM, .int rB, .ref arp, .ref ark, .ref arb, .int fb, .int fto, .int (nI R), .ref awh, .ref awn, .ref awm, .ref awk, .ref amo, .ref amu])), (ace, aI G 240 CE)] (some (.int (nI (d9 (CE q))))) := by
  refine Wt.ofI (cc := cX5_digit) (maxL := 4) (by decide) rfl (Nat.le_of_ble_eq_true rfl) ?_
  intro p e s m below meth c Q A ls hE hP hK hD hS hl hret
  obtain ⟨hx, hb, hml, hown, hts⟩ := id hE
  have hl : lv_has ls 4 [(0, .ref o), (1, .int (nI z)), (2, .int (nI lo)), (3, .int (nI hi))] := hl
  refine lv_aload_n hx hb dX5_digit_0 rfl (lv_at hl 0 rfl) ?_
  refine g_get (v := .int (nI q)) hx hb hts ixX5_digit_X5 hown hK hP 0 rfl rfl 10 (by decide) lkX5_digit_71 rfl dX5_digit_1 ?_
  refine lv_iload_n hx hb dX5_digit_4 rfl (lv_at hl 1 rfl) ?_
  refine ic_ge (tgt := 31) hx hb (by omega) (by omega) dX5_digit_5 (by decide) (fun c1 => ?_) (fun c1 => ?_)
  ·
    omega
  ·
    refine lv_aload_n hx hb dX5_digit_8 rfl (lv_at hl 0 rfl) ?_
    refine g_get (v := .ref ace) hx hb hts ixX5_digit_X5 hown hK hP 0 rfl rfl 4 (by decide) lkX5_digit_16 rfl dX5_digit_9 ?_
    refine lv_aload_n hx hb dX5_digit_12 rfl (lv_at hl 0 rfl) ?_
    refine g_get (v := .int (nI q)) hx hb hts ixX5_digit_X5 hown hK hP 0 rfl rfl 10 (by decide) lkX5_digit_71 rfl dX5_digit_13 ?_
    refine n_ald hx hb hK hP 1 rfl (k := q) (by omega) (by decide) dX5_digit_16 ?_
    refine lv_bipush (v := nI 48) hx hb dX5_digit_17 (by decide) ?_
    refine lv_iload_n hx hb dX5_digit_19 rfl (lv_at hl 2 rfl) ?_
    refine lv_iadd hx hb dX5_digit_20 ?_
    refine lv_tope (show (nI 48) + (nI lo) = nI (48 + lo) from nI_add _ _) ?_
    refine lv_bipush (v := nI 48) hx hb dX5_digit_21 (by decide) ?_
    refine lv_iload_n hx hb dX5_digit_23 rfl (lv_at hl 3 rfl) ?_
    refine lv_iadd hx hb dX5_digit_24 ?_
    refine lv_tope (show (nI 48) + (nI hi) = nI (48 + hi) from nI_add _ _) ?_
    refine rdS (As := [.int (CE q), .int (nI (48 + lo)), .int (nI (48 + hi))]) (rest := []) hE (kX5_within l G (CE q) (nI (48 + lo)) (nI (48 + hi)) ) (va_cwS 3 hts gX5_digit_X5_within rfl rfl rfl (by decide +kernel) ⟨Nat.le_of_ble_eq_true rfl, Nat.le_of_ble_eq_true rfl⟩) hP hK [] rfl rfl hl.1 rfl (Nat.le_of_ble_eq_true rfl) dX5_digit_25 ⟨Nat.zero_le _, Nat.zero_le _⟩ ?_
    refine W.eq (g2 := F0 m 28 ls [.int (bI (¬ (CE q) < (nI (48 + lo)) ∧ ¬ (nI (48 + hi)) < (CE q)))]) rfl ?_
    refine bz_ne (tgt := 34) hx hb dX5_digit_28 (by decide) (fun c2 => ?_) (fun c2 => ?_)
    ·
      refine lv_aload_n hx hb dX5_digit_34 rfl (lv_at hl 0 rfl) ?_
      refine lv_dup hx hb dX5_digit_35 rfl ?_
      refine g_get (v := .int (nI q)) hx hb hts ixX5_digit_X5 hown hK hP 0 rfl rfl 10 (by decide) lkX5_digit_71 rfl dX5_digit_36 ?_
      refine lv_iconst (v := nI 1) hx hb dX5_digit_39 (by decide) ?_
      refine lv_iadd hx hb dX5_digit_40 ?_
      refine lv_tope (show (nI q) + (nI 1) = nI (q + 1) from nI_add _ _) ?_
      refine g_put (v := (nI (q + 1))) hx hb hts ixX5_digit_X5 tyX5 tyX5_ok nmX5 hown hK hP hD hS 0 rfl rfl 10 (by decide) lkX5_digit_71 rfl rfl (Nat.le_of_ble_eq_true rfl) dX5_digit_41 (fun H locs hP hD hS => ?_)
      have hP : va_P G.1 vwCl [(o, .inr (5, [.int ff, .int ftr, .ref aso, .ref asl, .ref ace, .int (nI M), .int (nI B), .ref ape, .ref aki, .ref abo, .int (nI (q + 1)), .int rM, .int rB, .ref arp, .ref ark, .ref arb, .int fb, .int fto, .int (nI R), .ref awh, .ref awn, .ref awm, .ref awk, .ref amo, .ref amu])), (ace, aI G 240 CE)] H := hP
      have hD : va_D A [(o, .inr (5, [.int ff, .int ftr, .ref aso, .ref asl, .ref ace, .int (nI M), .int (nI B), .ref ape, .ref aki, .ref abo, .int (nI (q + 1)), .int rM, .int rB, .ref arp, .ref ark, .ref arb, .int fb, .int fto, .int (nI R), .ref awh, .ref awn, .ref awm, .ref awk, .ref amo, .ref amu])), (ace, aI G 240 CE)] := hD
      refine lv_aload_n hx hb dX5_digit_44 rfl (lv_at hl 0 rfl) ?_
      refine g_get (v := .ref ace) hx hb hts ixX5_digit_X5 hown hK hP 0 rfl rfl 4 (by decide) lkX5_digit_16 rfl dX5_digit_45 ?_
      refine lv_aload_n hx hb dX5_digit_48 rfl (lv_at hl 0 rfl) ?_
      refine g_get (v := .int (nI (q + 1))) hx hb hts ixX5_digit_X5 hown hK hP 0 rfl rfl 10 (by decide) lkX5_digit_71 rfl dX5_digit_49 ?_
      refine lv_iconst (v := nI 1) hx hb dX5_digit_52 (by decide) ?_
      refine lv_isub hx hb dX5_digit_53 ?_
      refine lv_tope (show (nI (q + 1)) - (nI 1) = nI ((q + 1) - 1) from pk_sub (by omega)) ?_
      refine n_ald hx hb hK hP 1 rfl (k := (q + 1) - 1) (by omega) (by decide) dX5_digit_54 ?_
      refine lv_bipush (v := nI 48) hx hb dX5_digit_55 (by decide) ?_
      refine lv_isub hx hb dX5_digit_57 ?_
      refine lv_tope (show (CE ((q + 1) - 1)) - (nI 48) = nI (d9 (CE q)) from (dg_of hd9 hlo hhi).1) ?_
      exact hret _ _ _ _ _ (by first | with_reducible rfl | (simp only [iF_t c1, iF_t c2]; done) | contradiction) (hP) hS dX5_digit_58
    ·
      exact absurd hd9 c2

set_option maxHeartbeats 4000000 in
set_option maxRecDepth 100000 in
theorem kX5_digitn (l : Launch) (G : Gl) (o : Nat) (ff : Int32) (ftr : Int32) (aso : Nat) (asl : Nat) (ace : Nat) (M : Nat) (B : Nat) (ape : Nat) (aki : Nat) (abo : Nat) (rM : Int32) (rB : Int32) (arp : Nat) (ark : Nat) (arb : Nat) (fb : Int32) (fto : Int32) (R : Nat) (awh : Nat) (awn : Nat) (awm : Nat) (awk : Nat) (amo : Nat) (amu : Nat) (CE : Nat → Int32) (q : Nat) (z : Nat) (lo : Nat) (hi : Nat) (hno : ¬ (q < z ∧ dgt (CE q) lo hi)) (hz2 : z ≤ 240) (hqz : q ≤ 240) : Wt l G yX5_digit wsX5_digit ({ frames := 1, cells := 0, slots := 0, locals := 22 } : Room) [.ref o, .int (nI z), .int (nI lo), .int (nI hi)] [(o, .inr (5, [.int ff, .int ftr, .ref aso, .ref asl, .ref ace, .int (nI M), .int (nI B), .ref ape, .ref aki, .ref abo, .int (nI q), .int rM, .int rB, .ref arp, .ref ark, .ref arb, .int fb, .int fto, .int (nI R), .ref awh, .ref awn, .ref awm, .ref awk, .ref amo, .ref amu])), (ace, aI G 240 CE)] [(o, .inr (5, [.int ff, .int ftr, .ref aso, .ref asl, .ref ace, .int (nI M), .int (nI B), .ref ape, .ref aki, .ref abo, .int (nI q), .int rM, .int rB, .ref arp, .ref ark, .ref arb, .int fb, .int fto, .int (nI R), .ref awh, .ref awn, .ref awm, .ref awk, .ref amo, .ref amu])), (ace, aI G 240 CE)] (some (.int (-9))) := by
  refine Wt.ofI (cc := cX5_digit) (maxL := 4) (by decide) rfl (Nat.le_of_ble_eq_true rfl) ?_
  intro p e s m below meth c Q A ls hE hP hK hD hS hl hret
  obtain ⟨hx, hb, hml, hown, hts⟩ := id hE
  have hl : lv_has ls 4 [(0, .ref o), (1, .int (nI z)), (2, .int (nI lo)), (3, .int (nI hi))] := hl
  refine lv_aload_n hx hb dX5_digit_0 rfl (lv_at hl 0 rfl) ?_
  refine g_get (v := .int (nI q)) hx hb hts ixX5_digit_X5 hown hK hP 0 rfl rfl 10 (by decide) lkX5_digit_71 rfl dX5_digit_1 ?_
  refine lv_iload_n hx hb dX5_digit_4 rfl (lv_at hl 1 rfl) ?_
  refine ic_ge (tgt := 31) hx hb (by omega) (by omega) dX5_digit_5 (by decide) (fun c1 => ?_) (fun c1 => ?_)
  ·
    refine lv_bipush (v := (-9)) hx hb dX5_digit_31 (by decide) ?_
    exact hret _ _ _ _ _ (by first | with_reducible rfl | (simp only [iF_f (Nat.not_lt.mpr c1)]; done) | contradiction) (hP) hS dX5_digit_33
  ·
    refine lv_aload_n hx hb dX5_digit_8 rfl (lv_at hl 0 rfl) ?_
    refine g_get (v := .ref ace) hx hb hts ixX5_digit_X5 hown hK hP 0 rfl rfl 4 (by decide) lkX5_digit_16 rfl dX5_digit_9 ?_
    refine lv_aload_n hx hb dX5_digit_12 rfl (lv_at hl 0 rfl) ?_
    refine g_get (v := .int (nI q)) hx hb hts ixX5_digit_X5 hown hK hP 0 rfl rfl 10 (by decide) lkX5_digit_71 rfl dX5_digit_13 ?_
    refine n_ald hx hb hK hP 1 rfl (k := q) (by omega) (by decide) dX5_digit_16 ?_
    refine lv_bipush (v := nI 48) hx hb dX5_digit_17 (by decide) ?_
    refine lv_iload_n hx hb dX5_digit_19 rfl (lv_at hl 2 rfl) ?_
    refine lv_iadd hx hb dX5_digit_20 ?_
    refine lv_tope (show (nI 48) + (nI lo) = nI (48 + lo) from nI_add _ _) ?_
    refine lv_bipush (v := nI 48) hx hb dX5_digit_21 (by decide) ?_
    refine lv_iload_n hx hb dX5_digit_23 rfl (lv_at hl 3 rfl) ?_
    refine lv_iadd hx hb dX5_digit_24 ?_
    refine lv_tope (show (nI 48) + (nI hi) = nI (48 + hi) from nI_add _ _) ?_
    refine rdS (As := [.int (CE q), .int (nI (48 + lo)), .int (nI (48 + hi))]) (rest := []) hE (kX5_within l G (CE q) (nI (48 + lo)) (nI (48 + hi)) ) (va_cwS 3 hts gX5_digit_X5_within rfl rfl rfl (by decide +kernel) ⟨Nat.le_of_ble_eq_true rfl, Nat.le_of_ble_eq_true rfl⟩) hP hK [] rfl rfl hl.1 rfl (Nat.le_of_ble_eq_true rfl) dX5_digit_25 ⟨Nat.zero_le _, Nat.zero_le _⟩ ?_
    refine W.eq (g2 := F0 m 28 ls [.int (bI (¬ (CE q) < (nI (48 + lo)) ∧ ¬ (nI (48 + hi)) < (CE q)))]) rfl ?_
    refine bz_ne (tgt := 34) hx hb dX5_digit_28 (by decide) (fun c2 => ?_) (fun c2 => ?_)
    ·
      exact absurd ⟨by omega, c2⟩ hno
    ·
      refine lv_bipush (v := (-9)) hx hb dX5_digit_31 (by decide) ?_
      exact hret _ _ _ _ _ (by first | with_reducible rfl | (simp only [iF_t c1, iF_f c2]; done) | contradiction) (hP) hS dX5_digit_33

theorem ixX5_readMaster_X5 : ∀ w ∈ wsX50, w ∈ wsX5_readMaster := fun _ h => List.mem_cons_of_mem _ (List.mem_append_right _ h)
theorem lkX5_readMaster_92 : Cond.fieldLink RX5 92 (TX5 11).1 (TX5 11).2.1 (TX5 11).2.2.1 ∈ wsX5_readMaster := List.mem_of_getElem? (i := 1) rfl
theorem lkX5_readMaster_28 : Cond.fieldLink RX5 28 (TX5 13).1 (TX5 13).2.1 (TX5 13).2.2.1 ∈ wsX5_readMaster := List.mem_of_getElem? (i := 2) rfl
set_option maxHeartbeats 4000000 in
set_option maxRecDepth 100000 in
theorem kX5_readMastery (l : Launch) (G : Gl) (o : Nat) (ff : Int32) (ftr : Int32) (aso : Nat) (asl : Nat) (ace : Nat) (M : Nat) (B : Nat) (ape : Nat) (aki : Nat) (abo : Nat) (rB : Int32) (arp : Nat) (ark : Nat) (arb : Nat) (fb : Int32) (fto : Int32) (R : Nat) (awh : Nat) (awn : Nat) (awm : Nat) (awk : Nat) (amo : Nat) (amu : Nat) (CE : Nat → Int32) (RP : Nat → Int32) (q : Nat) (z : Nat) (m0 : Nat) (M9 : Nat) (hM9 : M9 ≤ 5) (hm9 : m0 < M9) (hz2 : z ≤ 240) (hqz : q ≤ z) (hall : ∀ b, b < M9 → okM CE q z m0 b) : Wt l G yX5_readMaster wsX5_readMaster ({ frames := 2, cells := 0, slots := 0, locals := 45 } : Room) [.ref o, .int (nI z), .int (nI m0)] [(o, .inr (5, [.int ff, .int ftr, .ref aso, .ref asl, .ref ace, .int (nI M), .int (nI B), .ref ape, .ref aki, .ref abo, .int (nI q), .int (nI M9), .int rB, .ref arp, .ref ark, .ref arb, .int fb, .int fto, .int (nI R), .ref awh, .ref awn, .ref awm, .ref awk, .ref amo, .ref amu])), (ace, aI G 240 CE), (arp, aI G 25 RP)] [(o, .inr (5, [.int ff, .int ftr, .ref aso, .ref asl, .ref ace, .int (nI M), .int (nI B), .ref ape, .ref aki, .ref abo, .int (nI (q + M9)), .int (nI M9), .int rB, .ref arp, .ref ark, .ref arb, .int fb, .int fto, .int (nI R), .ref awh, .ref awn, .ref awm, .ref awk, .ref amo, .ref amu])), (ace, aI G 240 CE), (arp, aI G 25 (rmF RP CE m0 q M9))] (some (.int (bI True))) := by
  refine Wt.ofZ (cc := cX5_readMaster) (maxL := 4) (by decide) rfl (Nat.le_of_ble_eq_true rfl) ?_
  intro p e s m below meth c Q A ls hE hP hK hD hS hl hret
  obtain ⟨hx, hb, hml, hown, hts⟩ := id hE
  have hl : lv_has ls 4 [(0, .ref o), (1, .int (nI z)), (2, .int (nI m0))] := hl
  refine lv_iconst (v := nI 0) hx hb dX5_readMaster_0 (by decide) ?_
  refine lv_istore_n (lv' := [(3, .int (nI 0)), (0, .ref o), (1, .int (nI z)), (2, .int (nI m0))]) hx hb dX5_readMaster_1 rfl hl (by decide) rfl (fun ls hl => ?_)
  have loop1 : ∀ (d b : Nat) (H : Heap) (locs : List Loc) (ls : Array Slot), M9 < b + d → b ≤ M9 → va_P G.1 vwCl [(o, .inr (5, [.int ff, .int ftr, .ref aso, .ref asl, .ref ace, .int (nI M), .int (nI B), .ref ape, .ref aki, .ref abo, .int (nI (q + b)), .int (nI M9), .int rB, .ref arp, .ref ark, .ref arb, .int fb, .int fto, .int (nI R), .ref awh, .ref awn, .ref awm, .ref awk, .ref amo, .ref amu])), (ace, aI G 240 CE), (arp, aI G 25 (rmF RP CE m0 q b))] H → va_D A [(o, .inr (5, [.int ff, .int ftr, .ref aso, .ref asl, .ref ace, .int (nI M), .int (nI B), .ref ape, .ref aki, .ref abo, .int (nI (q + b)), .int (nI M9), .int rB, .ref arp, .ref ark, .ref arb, .int fb, .int fto, .int (nI R), .ref awh, .ref awn, .ref awm, .ref awk, .ref amo, .ref amu])), (ace, aI G 240 CE), (arp, aI G 25 (rmF RP CE m0 q b))] → va_S A s.heap H locs → lv_has ls 4 [(3, .int (nI b)), (0, .ref o), (1, .int (nI z)), (2, .int (nI m0))] → W p l e ({ frames := 2, cells := 0, slots := 0, locals := 45 } : Room) s m ([.ref o, .int (nI z), .int (nI m0)] : List Value).toArray below meth c H locs 0 0 Q (F0 m 2 ls []) := by
    intro d
    induction d with
    | zero =>
      intro b H locs ls h1 h2
      omega
    | succ d ih1 =>
      intro b H locs ls hdb hbb hP hD hS hl
      refine lv_iload_n hx hb dX5_readMaster_2 rfl (lv_at hl 0 rfl) ?_
      refine lv_aload_n hx hb dX5_readMaster_3 rfl (lv_at hl 1 rfl) ?_
      refine g_get (v := .int (nI M9)) hx hb hts ixX5_readMaster_X5 hown hK hP 0 rfl rfl 11 (by decide) lkX5_readMaster_92 rfl dX5_readMaster_4 ?_
      refine ic_ge (tgt := 60) hx hb (by omega) (by omega) dX5_readMaster_7 (by decide) (fun c1 => ?_) (fun c1 => ?_)
      ·
        obtain rfl : M9 = b := by omega
        refine lv_iconst (v := nI 1) hx hb dX5_readMaster_60 (by decide) ?_
        exact hret _ _ _ _ _ ((bI_t True.intro).symm) (hP) hS dX5_readMaster_61
      ·
        refine lv_aload_n hx hb dX5_readMaster_10 rfl (lv_at hl 1 rfl) ?_
        refine g_get (v := .ref arp) hx hb hts ixX5_readMaster_X5 hown hK hP 0 rfl rfl 13 (by decide) lkX5_readMaster_28 rfl dX5_readMaster_11 ?_
        refine lv_iload_n hx hb dX5_readMaster_14 rfl (lv_at hl 3 rfl) ?_
        refine lv_iload_n hx hb dX5_readMaster_15 rfl (lv_at hl 0 rfl) ?_
        refine rdS (As := [.int (nI m0), .int (nI b)]) (rest := [.ref arp]) hE (kX5_spot l G m0 b ) (va_cwS 2 hts gX5_readMaster_X5_spot rfl rfl rfl (by decide +kernel) ⟨Nat.le_of_ble_eq_true rfl, Nat.le_of_ble_eq_true rfl⟩) hP hK [] rfl rfl hl.1 rfl (Nat.le_of_ble_eq_true rfl) dX5_readMaster_16 ⟨Nat.zero_le _, Nat.zero_le _⟩ ?_
        refine W.eq (g2 := F0 m 19 ls [.int (nI (m0 * 5 + b)), .ref arp]) rfl ?_
        refine lv_aload_n hx hb dX5_readMaster_19 rfl (lv_at hl 1 rfl) ?_
        refine lv_iload_n hx hb dX5_readMaster_20 rfl (lv_at hl 2 rfl) ?_
        refine lv_iconst (v := nI 0) hx hb dX5_readMaster_21 (by decide) ?_
        refine lv_iload_n hx hb dX5_readMaster_22 rfl (lv_at hl 0 rfl) ?_
        refine lv_iload_n hx hb dX5_readMaster_23 rfl (lv_at hl 3 rfl) ?_
        refine ic_ne (tgt := 31) hx hb (by omega) (by omega) dX5_readMaster_24 (by decide) (fun c2 => ?_) (fun c2 => ?_)
        ·
          refine lv_bipush (v := nI 9) hx hb dX5_readMaster_31 (by decide) ?_
          have hok := hall b (by omega)
          unfold okM at hok
          rw [if_neg c2] at hok
          refine wtV (As := [.int (nI z), .int (nI 0), .int (nI 9)]) (rest := [.int (nI (m0 * 5 + b)), .ref arp]) (ci := 5) (q0 := 0) hE (kX5_digity l G o ff ftr aso asl ace M B ape aki abo (nI M9) rB arp ark arb fb fto R awh awn awm awk amo amu CE (q + b) z 0 9 hok.1 hz2 hok.2 (by omega) (by omega)) (cwV 3 hts gX5_readMaster_X5_digit rfl rfl rfl (by decide +kernel) ⟨Nat.le_of_ble_eq_true rfl, Nat.le_of_ble_eq_true rfl⟩) hP hK hD hS [0, 1] (by decide) rfl (Eq.trans (b := [o, ace]) rfl rfl) (W1 := [(o, .inr (5, [.int ff, .int ftr, .ref aso, .ref asl, .ref ace, .int (nI M), .int (nI B), .ref ape, .ref aki, .ref abo, .int (nI ((q + b) + 1)), .int (nI M9), .int rB, .ref arp, .ref ark, .ref arb, .int fb, .int fto, .int (nI R), .ref awh, .ref awn, .ref awm, .ref awk, .ref amo, .ref amu])), (ace, aI G 240 CE), (arp, aI G 25 (rmF RP CE m0 q b))]) rfl rfl rfl rfl hl.1 rfl (Nat.le_of_ble_eq_true rfl) dX5_readMaster_33 ⟨Nat.zero_le _, Nat.zero_le _⟩ (fun H locs hP hD hS => ?_)
          refine W.eq (g2 := F0 m 36 ls [.int (nI (d9 (CE (q + b)))), .int (nI (m0 * 5 + b)), .ref arp]) rfl ?_
          refine n_ast hx hb hK hP hD hS 2 rfl (k := m0 * 5 + b) (by omega) (by decide) dX5_readMaster_36 (fun H locs hP hD hS => ?_)
          have hP : va_P G.1 vwCl [(o, .inr (5, [.int ff, .int ftr, .ref aso, .ref asl, .ref ace, .int (nI M), .int (nI B), .ref ape, .ref aki, .ref abo, .int (nI ((q + b) + 1)), .int (nI M9), .int rB, .ref arp, .ref ark, .ref arb, .int fb, .int fto, .int (nI R), .ref awh, .ref awn, .ref awm, .ref awk, .ref amo, .ref amu])), (ace, aI G 240 CE), (arp, aI G 25 (upd (rmF RP CE m0 q b) (m0 * 5 + b) (nI (d9 (CE (q + b))))))] H := hP
          have hD : va_D A [(o, .inr (5, [.int ff, .int ftr, .ref aso, .ref asl, .ref ace, .int (nI M), .int (nI B), .ref ape, .ref aki, .ref abo, .int (nI ((q + b) + 1)), .int (nI M9), .int rB, .ref arp, .ref ark, .ref arb, .int fb, .int fto, .int (nI R), .ref awh, .ref awn, .ref awm, .ref awk, .ref amo, .ref amu])), (ace, aI G 240 CE), (arp, aI G 25 (upd (rmF RP CE m0 q b) (m0 * 5 + b) (nI (d9 (CE (q + b))))))] := hD
          refine lv_aload_n hx hb dX5_readMaster_37 rfl (lv_at hl 1 rfl) ?_
          refine g_get (v := .ref arp) hx hb hts ixX5_readMaster_X5 hown hK hP 0 rfl rfl 13 (by decide) lkX5_readMaster_28 rfl dX5_readMaster_38 ?_
          refine lv_iload_n hx hb dX5_readMaster_41 rfl (lv_at hl 3 rfl) ?_
          refine lv_iload_n hx hb dX5_readMaster_42 rfl (lv_at hl 0 rfl) ?_
          refine rdS (As := [.int (nI m0), .int (nI b)]) (rest := [.ref arp]) hE (kX5_spot l G m0 b ) (va_cwS 2 hts gX5_readMaster_X5_spot rfl rfl rfl (by decide +kernel) ⟨Nat.le_of_ble_eq_true rfl, Nat.le_of_ble_eq_true rfl⟩) hP hK [] rfl rfl hl.1 rfl (Nat.le_of_ble_eq_true rfl) dX5_readMaster_43 ⟨Nat.zero_le _, Nat.zero_le _⟩ ?_
          refine W.eq (g2 := F0 m 46 ls [.int (nI (m0 * 5 + b)), .ref arp]) rfl ?_
          refine n_ald hx hb hK hP 2 rfl (k := m0 * 5 + b) (by omega) (by decide) dX5_readMaster_46 ?_
          refine lv_tope (show (upd (rmF RP CE m0 q b) (m0 * 5 + b) (nI (d9 (CE (q + b))))) (m0 * 5 + b) = nI (d9 (CE (q + b))) from upS _ _ _) ?_
          have hd99 := (dg_of hok.2 (by omega) (by omega)).2.2.1
          refine lv_bipush (v := (-9)) hx hb dX5_readMaster_47 (by decide) ?_
          refine lv_icmp_ne (tgt := 54) hx hb dX5_readMaster_49 (by decide) (fun c3 => ?_) (fun c3 => ?_)
          ·
            refine lv_iinc (v := nI (b + 1)) (lv' := [(3, .int (nI (b + 1))), (0, .ref o), (1, .int (nI z)), (2, .int (nI m0))]) hx hb dX5_readMaster_54 hl (k := 0) rfl (show nI b + Int32.ofInt 1 = nI (b + 1) from nI_add _ 1) (by decide) rfl (fun ls hl => ?_)
            refine lv_goto (tgt := 2) hx hb dX5_readMaster_57 (by decide) ?_
            have hP4 : va_P G.1 vwCl [(o, .inr (5, [.int ff, .int ftr, .ref aso, .ref asl, .ref ace, .int (nI M), .int (nI B), .ref ape, .ref aki, .ref abo, .int (nI (q + (b + 1))), .int (nI M9), .int rB, .ref arp, .ref ark, .ref arb, .int fb, .int fto, .int (nI R), .ref awh, .ref awn, .ref awm, .ref awk, .ref amo, .ref amu])), (ace, aI G 240 CE), (arp, aI G 25 (rmF RP CE m0 q (b + 1)))] H := by
              rw [show (nI (q + (b + 1))) = (nI ((q + b) + 1)) from by first | rfl | simp only [rmF, iF_t c1, iF_f c2]]
              rw [show (rmF RP CE m0 q (b + 1)) = (upd (rmF RP CE m0 q b) (m0 * 5 + b) (nI (d9 (CE (q + b))))) from by first | rfl | simp only [rmF, iF_t c1, iF_f c2]]
              exact hP
            have hD4 : va_D A [(o, .inr (5, [.int ff, .int ftr, .ref aso, .ref asl, .ref ace, .int (nI M), .int (nI B), .ref ape, .ref aki, .ref abo, .int (nI (q + (b + 1))), .int (nI M9), .int rB, .ref arp, .ref ark, .ref arb, .int fb, .int fto, .int (nI R), .ref awh, .ref awn, .ref awm, .ref awk, .ref amo, .ref amu])), (ace, aI G 240 CE), (arp, aI G 25 (rmF RP CE m0 q (b + 1)))] := by
              rw [show (nI (q + (b + 1))) = (nI ((q + b) + 1)) from by first | rfl | simp only [rmF, iF_t c1, iF_f c2]]
              rw [show (rmF RP CE m0 q (b + 1)) = (upd (rmF RP CE m0 q b) (m0 * 5 + b) (nI (d9 (CE (q + b))))) from by first | rfl | simp only [rmF, iF_t c1, iF_f c2]]
              exact hD
            exact ih1 (b + 1) H locs ls (by omega) (by omega) hP4 hD4 hS (lv_sub hl [0, 1, 2, 3] rfl)
          ·
            exact absurd c3 (nI_n9 (by omega))
        ·
          refine lv_iconst (v := nI 0) hx hb dX5_readMaster_27 (by decide) ?_
          refine lv_goto (tgt := 33) hx hb dX5_readMaster_28 (by decide) ?_
          have hok := hall b (by omega)
          unfold okM at hok
          rw [if_pos c2] at hok
          refine wtV (As := [.int (nI z), .int (nI 0), .int (nI 0)]) (rest := [.int (nI (m0 * 5 + b)), .ref arp]) (ci := 5) (q0 := 0) hE (kX5_digity l G o ff ftr aso asl ace M B ape aki abo (nI M9) rB arp ark arb fb fto R awh awn awm awk amo amu CE (q + b) z 0 0 hok.1 hz2 hok.2 (by omega) (by omega)) (cwV 3 hts gX5_readMaster_X5_digit rfl rfl rfl (by decide +kernel) ⟨Nat.le_of_ble_eq_true rfl, Nat.le_of_ble_eq_true rfl⟩) hP hK hD hS [0, 1] (by decide) rfl (Eq.trans (b := [o, ace]) rfl rfl) (W1 := [(o, .inr (5, [.int ff, .int ftr, .ref aso, .ref asl, .ref ace, .int (nI M), .int (nI B), .ref ape, .ref aki, .ref abo, .int (nI ((q + b) + 1)), .int (nI M9), .int rB, .ref arp, .ref ark, .ref arb, .int fb, .int fto, .int (nI R), .ref awh, .ref awn, .ref awm, .ref awk, .ref amo, .ref amu])), (ace, aI G 240 CE), (arp, aI G 25 (rmF RP CE m0 q b))]) rfl rfl rfl rfl hl.1 rfl (Nat.le_of_ble_eq_true rfl) dX5_readMaster_33 ⟨Nat.zero_le _, Nat.zero_le _⟩ (fun H locs hP hD hS => ?_)
          refine W.eq (g2 := F0 m 36 ls [.int (nI (d9 (CE (q + b)))), .int (nI (m0 * 5 + b)), .ref arp]) rfl ?_
          refine n_ast hx hb hK hP hD hS 2 rfl (k := m0 * 5 + b) (by omega) (by decide) dX5_readMaster_36 (fun H locs hP hD hS => ?_)
          have hP : va_P G.1 vwCl [(o, .inr (5, [.int ff, .int ftr, .ref aso, .ref asl, .ref ace, .int (nI M), .int (nI B), .ref ape, .ref aki, .ref abo, .int (nI ((q + b) + 1)), .int (nI M9), .int rB, .ref arp, .ref ark, .ref arb, .int fb, .int fto, .int (nI R), .ref awh, .ref awn, .ref awm, .ref awk, .ref amo, .ref amu])), (ace, aI G 240 CE), (arp, aI G 25 (upd (rmF RP CE m0 q b) (m0 * 5 + b) (nI (d9 (CE (q + b))))))] H := hP
          have hD : va_D A [(o, .inr (5, [.int ff, .int ftr, .ref aso, .ref asl, .ref ace, .int (nI M), .int (nI B), .ref ape, .ref aki, .ref abo, .int (nI ((q + b) + 1)), .int (nI M9), .int rB, .ref arp, .ref ark, .ref arb, .int fb, .int fto, .int (nI R), .ref awh, .ref awn, .ref awm, .ref awk, .ref amo, .ref amu])), (ace, aI G 240 CE), (arp, aI G 25 (upd (rmF RP CE m0 q b) (m0 * 5 + b) (nI (d9 (CE (q + b))))))] := hD
          refine lv_aload_n hx hb dX5_readMaster_37 rfl (lv_at hl 1 rfl) ?_
          refine g_get (v := .ref arp) hx hb hts ixX5_readMaster_X5 hown hK hP 0 rfl rfl 13 (by decide) lkX5_readMaster_28 rfl dX5_readMaster_38 ?_
          refine lv_iload_n hx hb dX5_readMaster_41 rfl (lv_at hl 3 rfl) ?_
          refine lv_iload_n hx hb dX5_readMaster_42 rfl (lv_at hl 0 rfl) ?_
          refine rdS (As := [.int (nI m0), .int (nI b)]) (rest := [.ref arp]) hE (kX5_spot l G m0 b ) (va_cwS 2 hts gX5_readMaster_X5_spot rfl rfl rfl (by decide +kernel) ⟨Nat.le_of_ble_eq_true rfl, Nat.le_of_ble_eq_true rfl⟩) hP hK [] rfl rfl hl.1 rfl (Nat.le_of_ble_eq_true rfl) dX5_readMaster_43 ⟨Nat.zero_le _, Nat.zero_le _⟩ ?_
          refine W.eq (g2 := F0 m 46 ls [.int (nI (m0 * 5 + b)), .ref arp]) rfl ?_
          refine n_ald hx hb hK hP 2 rfl (k := m0 * 5 + b) (by omega) (by decide) dX5_readMaster_46 ?_
          refine lv_tope (show (upd (rmF RP CE m0 q b) (m0 * 5 + b) (nI (d9 (CE (q + b))))) (m0 * 5 + b) = nI (d9 (CE (q + b))) from upS _ _ _) ?_
          have hd99 := (dg_of hok.2 (by omega) (by omega)).2.2.1
          refine lv_bipush (v := (-9)) hx hb dX5_readMaster_47 (by decide) ?_
          refine lv_icmp_ne (tgt := 54) hx hb dX5_readMaster_49 (by decide) (fun c5 => ?_) (fun c5 => ?_)
          ·
            refine lv_iinc (v := nI (b + 1)) (lv' := [(3, .int (nI (b + 1))), (0, .ref o), (1, .int (nI z)), (2, .int (nI m0))]) hx hb dX5_readMaster_54 hl (k := 0) rfl (show nI b + Int32.ofInt 1 = nI (b + 1) from nI_add _ 1) (by decide) rfl (fun ls hl => ?_)
            refine lv_goto (tgt := 2) hx hb dX5_readMaster_57 (by decide) ?_
            have hP6 : va_P G.1 vwCl [(o, .inr (5, [.int ff, .int ftr, .ref aso, .ref asl, .ref ace, .int (nI M), .int (nI B), .ref ape, .ref aki, .ref abo, .int (nI (q + (b + 1))), .int (nI M9), .int rB, .ref arp, .ref ark, .ref arb, .int fb, .int fto, .int (nI R), .ref awh, .ref awn, .ref awm, .ref awk, .ref amo, .ref amu])), (ace, aI G 240 CE), (arp, aI G 25 (rmF RP CE m0 q (b + 1)))] H := by
              rw [show (nI (q + (b + 1))) = (nI ((q + b) + 1)) from by first | rfl | simp only [rmF, iF_t c1, iF_t c2]]
              rw [show (rmF RP CE m0 q (b + 1)) = (upd (rmF RP CE m0 q b) (m0 * 5 + b) (nI (d9 (CE (q + b))))) from by first | rfl | simp only [rmF, iF_t c1, iF_t c2]]
              exact hP
            have hD6 : va_D A [(o, .inr (5, [.int ff, .int ftr, .ref aso, .ref asl, .ref ace, .int (nI M), .int (nI B), .ref ape, .ref aki, .ref abo, .int (nI (q + (b + 1))), .int (nI M9), .int rB, .ref arp, .ref ark, .ref arb, .int fb, .int fto, .int (nI R), .ref awh, .ref awn, .ref awm, .ref awk, .ref amo, .ref amu])), (ace, aI G 240 CE), (arp, aI G 25 (rmF RP CE m0 q (b + 1)))] := by
              rw [show (nI (q + (b + 1))) = (nI ((q + b) + 1)) from by first | rfl | simp only [rmF, iF_t c1, iF_t c2]]
              rw [show (rmF RP CE m0 q (b + 1)) = (upd (rmF RP CE m0 q b) (m0 * 5 + b) (nI (d9 (CE (q + b))))) from by first | rfl | simp only [rmF, iF_t c1, iF_t c2]]
              exact hD
            exact ih1 (b + 1) H locs ls (by omega) (by omega) hP6 hD6 hS (lv_sub hl [0, 1, 2, 3] rfl)
          ·
            exact absurd c5 (nI_n9 (by omega))
  have hP7 : va_P G.1 vwCl [(o, .inr (5, [.int ff, .int ftr, .ref aso, .ref asl, .ref ace, .int (nI M), .int (nI B), .ref ape, .ref aki, .ref abo, .int (nI (q + 0)), .int (nI M9), .int rB, .ref arp, .ref ark, .ref arb, .int fb, .int fto, .int (nI R), .ref awh, .ref awn, .ref awm, .ref awk, .ref amo, .ref amu])), (ace, aI G 240 CE), (arp, aI G 25 (rmF RP CE m0 q 0))] s.heap := by
    rw [show (nI (q + 0)) = (nI q) from by first | rfl | simp only [rmF]]
    rw [show (rmF RP CE m0 q 0) = (RP) from by first | rfl | simp only [rmF]]
    exact hP
  have hD7 : va_D A [(o, .inr (5, [.int ff, .int ftr, .ref aso, .ref asl, .ref ace, .int (nI M), .int (nI B), .ref ape, .ref aki, .ref abo, .int (nI (q + 0)), .int (nI M9), .int rB, .ref arp, .ref ark, .ref arb, .int fb, .int fto, .int (nI R), .ref awh, .ref awn, .ref awm, .ref awk, .ref amo, .ref amu])), (ace, aI G 240 CE), (arp, aI G 25 (rmF RP CE m0 q 0))] := by
    rw [show (nI (q + 0)) = (nI q) from by first | rfl | simp only [rmF]]
    rw [show (rmF RP CE m0 q 0) = (RP) from by first | rfl | simp only [rmF]]
    exact hD
  exact loop1 (M9 + 1) 0 s.heap [] ls (by omega) (by omega) hP7 hD7 hS (lv_sub hl [0, 1, 2, 3] rfl)

set_option maxHeartbeats 4000000 in
set_option maxRecDepth 100000 in
theorem kX5_readMastern (l : Launch) (G : Gl) (o : Nat) (ff : Int32) (ftr : Int32) (aso : Nat) (asl : Nat) (ace : Nat) (M : Nat) (B : Nat) (ape : Nat) (aki : Nat) (abo : Nat) (rB : Int32) (arp : Nat) (ark : Nat) (arb : Nat) (fb : Int32) (fto : Int32) (R : Nat) (awh : Nat) (awn : Nat) (awm : Nat) (awk : Nat) (amo : Nat) (amu : Nat) (CE : Nat → Int32) (RP : Nat → Int32) (q : Nat) (z : Nat) (m0 : Nat) (M9 : Nat) (k : Nat) (hM9 : M9 ≤ 5) (hm9 : m0 < M9) (hz2 : z ≤ 240) (hqz : q ≤ z) (hk : k < M9) (hall : ∀ b, b < k → okM CE q z m0 b) (hnok : ¬ okM CE q z m0 k) : Wt l G yX5_readMaster wsX5_readMaster ({ frames := 2, cells := 0, slots := 0, locals := 45 } : Room) [.ref o, .int (nI z), .int (nI m0)] [(o, .inr (5, [.int ff, .int ftr, .ref aso, .ref asl, .ref ace, .int (nI M), .int (nI B), .ref ape, .ref aki, .ref abo, .int (nI q), .int (nI M9), .int rB, .ref arp, .ref ark, .ref arb, .int fb, .int fto, .int (nI R), .ref awh, .ref awn, .ref awm, .ref awk, .ref amo, .ref amu])), (ace, aI G 240 CE), (arp, aI G 25 RP)] [(o, .inr (5, [.int ff, .int ftr, .ref aso, .ref asl, .ref ace, .int (nI M), .int (nI B), .ref ape, .ref aki, .ref abo, .int (nI (q + k)), .int (nI M9), .int rB, .ref arp, .ref ark, .ref arb, .int fb, .int fto, .int (nI R), .ref awh, .ref awn, .ref awm, .ref awk, .ref amo, .ref amu])), (ace, aI G 240 CE), (arp, aI G 25 (upd (rmF RP CE m0 q k) (m0 * 5 + k) (-9)))] (some (.int (bI False))) := by
  refine Wt.ofZ (cc := cX5_readMaster) (maxL := 4) (by decide) rfl (Nat.le_of_ble_eq_true rfl) ?_
  intro p e s m below meth c Q A ls hE hP hK hD hS hl hret
  obtain ⟨hx, hb, hml, hown, hts⟩ := id hE
  have hl : lv_has ls 4 [(0, .ref o), (1, .int (nI z)), (2, .int (nI m0))] := hl
  refine lv_iconst (v := nI 0) hx hb dX5_readMaster_0 (by decide) ?_
  refine lv_istore_n (lv' := [(3, .int (nI 0)), (0, .ref o), (1, .int (nI z)), (2, .int (nI m0))]) hx hb dX5_readMaster_1 rfl hl (by decide) rfl (fun ls hl => ?_)
  have loop1 : ∀ (d b : Nat) (H : Heap) (locs : List Loc) (ls : Array Slot), k < b + d → b ≤ k → va_P G.1 vwCl [(o, .inr (5, [.int ff, .int ftr, .ref aso, .ref asl, .ref ace, .int (nI M), .int (nI B), .ref ape, .ref aki, .ref abo, .int (nI (q + b)), .int (nI M9), .int rB, .ref arp, .ref ark, .ref arb, .int fb, .int fto, .int (nI R), .ref awh, .ref awn, .ref awm, .ref awk, .ref amo, .ref amu])), (ace, aI G 240 CE), (arp, aI G 25 (rmF RP CE m0 q b))] H → va_D A [(o, .inr (5, [.int ff, .int ftr, .ref aso, .ref asl, .ref ace, .int (nI M), .int (nI B), .ref ape, .ref aki, .ref abo, .int (nI (q + b)), .int (nI M9), .int rB, .ref arp, .ref ark, .ref arb, .int fb, .int fto, .int (nI R), .ref awh, .ref awn, .ref awm, .ref awk, .ref amo, .ref amu])), (ace, aI G 240 CE), (arp, aI G 25 (rmF RP CE m0 q b))] → va_S A s.heap H locs → lv_has ls 4 [(3, .int (nI b)), (0, .ref o), (1, .int (nI z)), (2, .int (nI m0))] → W p l e ({ frames := 2, cells := 0, slots := 0, locals := 45 } : Room) s m ([.ref o, .int (nI z), .int (nI m0)] : List Value).toArray below meth c H locs 0 0 Q (F0 m 2 ls []) := by
    intro d
    induction d with
    | zero =>
      intro b H locs ls h1 h2
      omega
    | succ d ih1 =>
      intro b H locs ls hdb hbb hP hD hS hl
      refine lv_iload_n hx hb dX5_readMaster_2 rfl (lv_at hl 0 rfl) ?_
      refine lv_aload_n hx hb dX5_readMaster_3 rfl (lv_at hl 1 rfl) ?_
      refine g_get (v := .int (nI M9)) hx hb hts ixX5_readMaster_X5 hown hK hP 0 rfl rfl 11 (by decide) lkX5_readMaster_92 rfl dX5_readMaster_4 ?_
      refine ic_ge (tgt := 60) hx hb (by omega) (by omega) dX5_readMaster_7 (by decide) (fun c1 => ?_) (fun c1 => ?_)
      ·
        omega
      ·
        refine lv_aload_n hx hb dX5_readMaster_10 rfl (lv_at hl 1 rfl) ?_
        refine g_get (v := .ref arp) hx hb hts ixX5_readMaster_X5 hown hK hP 0 rfl rfl 13 (by decide) lkX5_readMaster_28 rfl dX5_readMaster_11 ?_
        refine lv_iload_n hx hb dX5_readMaster_14 rfl (lv_at hl 3 rfl) ?_
        refine lv_iload_n hx hb dX5_readMaster_15 rfl (lv_at hl 0 rfl) ?_
        refine rdS (As := [.int (nI m0), .int (nI b)]) (rest := [.ref arp]) hE (kX5_spot l G m0 b ) (va_cwS 2 hts gX5_readMaster_X5_spot rfl rfl rfl (by decide +kernel) ⟨Nat.le_of_ble_eq_true rfl, Nat.le_of_ble_eq_true rfl⟩) hP hK [] rfl rfl hl.1 rfl (Nat.le_of_ble_eq_true rfl) dX5_readMaster_16 ⟨Nat.zero_le _, Nat.zero_le _⟩ ?_
        refine W.eq (g2 := F0 m 19 ls [.int (nI (m0 * 5 + b)), .ref arp]) rfl ?_
        refine lv_aload_n hx hb dX5_readMaster_19 rfl (lv_at hl 1 rfl) ?_
        refine lv_iload_n hx hb dX5_readMaster_20 rfl (lv_at hl 2 rfl) ?_
        refine lv_iconst (v := nI 0) hx hb dX5_readMaster_21 (by decide) ?_
        refine lv_iload_n hx hb dX5_readMaster_22 rfl (lv_at hl 0 rfl) ?_
        refine lv_iload_n hx hb dX5_readMaster_23 rfl (lv_at hl 3 rfl) ?_
        refine ic_ne (tgt := 31) hx hb (by omega) (by omega) dX5_readMaster_24 (by decide) (fun c2 => ?_) (fun c2 => ?_)
        ·
          refine lv_bipush (v := nI 9) hx hb dX5_readMaster_31 (by decide) ?_
          rcases Nat.lt_or_ge b k with hbk | hbk
          ·
            have hok := hall b hbk
            unfold okM at hok
            rw [if_neg c2] at hok
            refine wtV (As := [.int (nI z), .int (nI 0), .int (nI 9)]) (rest := [.int (nI (m0 * 5 + b)), .ref arp]) (ci := 5) (q0 := 0) hE (kX5_digity l G o ff ftr aso asl ace M B ape aki abo (nI M9) rB arp ark arb fb fto R awh awn awm awk amo amu CE (q + b) z 0 9 hok.1 hz2 hok.2 (by omega) (by omega)) (cwV 3 hts gX5_readMaster_X5_digit rfl rfl rfl (by decide +kernel) ⟨Nat.le_of_ble_eq_true rfl, Nat.le_of_ble_eq_true rfl⟩) hP hK hD hS [0, 1] (by decide) rfl (Eq.trans (b := [o, ace]) rfl rfl) (W1 := [(o, .inr (5, [.int ff, .int ftr, .ref aso, .ref asl, .ref ace, .int (nI M), .int (nI B), .ref ape, .ref aki, .ref abo, .int (nI ((q + b) + 1)), .int (nI M9), .int rB, .ref arp, .ref ark, .ref arb, .int fb, .int fto, .int (nI R), .ref awh, .ref awn, .ref awm, .ref awk, .ref amo, .ref amu])), (ace, aI G 240 CE), (arp, aI G 25 (rmF RP CE m0 q b))]) rfl rfl rfl rfl hl.1 rfl (Nat.le_of_ble_eq_true rfl) dX5_readMaster_33 ⟨Nat.zero_le _, Nat.zero_le _⟩ (fun H locs hP hD hS => ?_)
            refine W.eq (g2 := F0 m 36 ls [.int (nI (d9 (CE (q + b)))), .int (nI (m0 * 5 + b)), .ref arp]) rfl ?_
            refine n_ast hx hb hK hP hD hS 2 rfl (k := m0 * 5 + b) (by omega) (by decide) dX5_readMaster_36 (fun H locs hP hD hS => ?_)
            have hP : va_P G.1 vwCl [(o, .inr (5, [.int ff, .int ftr, .ref aso, .ref asl, .ref ace, .int (nI M), .int (nI B), .ref ape, .ref aki, .ref abo, .int (nI ((q + b) + 1)), .int (nI M9), .int rB, .ref arp, .ref ark, .ref arb, .int fb, .int fto, .int (nI R), .ref awh, .ref awn, .ref awm, .ref awk, .ref amo, .ref amu])), (ace, aI G 240 CE), (arp, aI G 25 (upd (rmF RP CE m0 q b) (m0 * 5 + b) (nI (d9 (CE (q + b))))))] H := hP
            have hD : va_D A [(o, .inr (5, [.int ff, .int ftr, .ref aso, .ref asl, .ref ace, .int (nI M), .int (nI B), .ref ape, .ref aki, .ref abo, .int (nI ((q + b) + 1)), .int (nI M9), .int rB, .ref arp, .ref ark, .ref arb, .int fb, .int fto, .int (nI R), .ref awh, .ref awn, .ref awm, .ref awk, .ref amo, .ref amu])), (ace, aI G 240 CE), (arp, aI G 25 (upd (rmF RP CE m0 q b) (m0 * 5 + b) (nI (d9 (CE (q + b))))))] := hD
            refine lv_aload_n hx hb dX5_readMaster_37 rfl (lv_at hl 1 rfl) ?_
            refine g_get (v := .ref arp) hx hb hts ixX5_readMaster_X5 hown hK hP 0 rfl rfl 13 (by decide) lkX5_readMaster_28 rfl dX5_readMaster_38 ?_
            refine lv_iload_n hx hb dX5_readMaster_41 rfl (lv_at hl 3 rfl) ?_
            refine lv_iload_n hx hb dX5_readMaster_42 rfl (lv_at hl 0 rfl) ?_
            refine rdS (As := [.int (nI m0), .int (nI b)]) (rest := [.ref arp]) hE (kX5_spot l G m0 b ) (va_cwS 2 hts gX5_readMaster_X5_spot rfl rfl rfl (by decide +kernel) ⟨Nat.le_of_ble_eq_true rfl, Nat.le_of_ble_eq_true rfl⟩) hP hK [] rfl rfl hl.1 rfl (Nat.le_of_ble_eq_true rfl) dX5_readMaster_43 ⟨Nat.zero_le _, Nat.zero_le _⟩ ?_
            refine W.eq (g2 := F0 m 46 ls [.int (nI (m0 * 5 + b)), .ref arp]) rfl ?_
            refine n_ald hx hb hK hP 2 rfl (k := m0 * 5 + b) (by omega) (by decide) dX5_readMaster_46 ?_
            refine lv_tope (show (upd (rmF RP CE m0 q b) (m0 * 5 + b) (nI (d9 (CE (q + b))))) (m0 * 5 + b) = nI (d9 (CE (q + b))) from upS _ _ _) ?_
            try have hd99 := (dg_of hok.2 (by omega) (by omega)).2.2.1
            refine lv_bipush (v := (-9)) hx hb dX5_readMaster_47 (by decide) ?_
            refine lv_icmp_ne (tgt := 54) hx hb dX5_readMaster_49 (by decide) (fun c3 => ?_) (fun c3 => ?_)
            ·
              refine lv_iinc (v := nI (b + 1)) (lv' := [(3, .int (nI (b + 1))), (0, .ref o), (1, .int (nI z)), (2, .int (nI m0))]) hx hb dX5_readMaster_54 hl (k := 0) rfl (show nI b + Int32.ofInt 1 = nI (b + 1) from nI_add _ 1) (by decide) rfl (fun ls hl => ?_)
              refine lv_goto (tgt := 2) hx hb dX5_readMaster_57 (by decide) ?_
              have hP4 : va_P G.1 vwCl [(o, .inr (5, [.int ff, .int ftr, .ref aso, .ref asl, .ref ace, .int (nI M), .int (nI B), .ref ape, .ref aki, .ref abo, .int (nI (q + (b + 1))), .int (nI M9), .int rB, .ref arp, .ref ark, .ref arb, .int fb, .int fto, .int (nI R), .ref awh, .ref awn, .ref awm, .ref awk, .ref amo, .ref amu])), (ace, aI G 240 CE), (arp, aI G 25 (rmF RP CE m0 q (b + 1)))] H := by
                rw [show (nI (q + (b + 1))) = (nI ((q + b) + 1)) from by first | rfl | simp only [rmF, iF_t c1, iF_f c2]]
                rw [show (rmF RP CE m0 q (b + 1)) = (upd (rmF RP CE m0 q b) (m0 * 5 + b) (nI (d9 (CE (q + b))))) from by first | rfl | simp only [rmF, iF_t c1, iF_f c2]]
                exact hP
              have hD4 : va_D A [(o, .inr (5, [.int ff, .int ftr, .ref aso, .ref asl, .ref ace, .int (nI M), .int (nI B), .ref ape, .ref aki, .ref abo, .int (nI (q + (b + 1))), .int (nI M9), .int rB, .ref arp, .ref ark, .ref arb, .int fb, .int fto, .int (nI R), .ref awh, .ref awn, .ref awm, .ref awk, .ref amo, .ref amu])), (ace, aI G 240 CE), (arp, aI G 25 (rmF RP CE m0 q (b + 1)))] := by
                rw [show (nI (q + (b + 1))) = (nI ((q + b) + 1)) from by first | rfl | simp only [rmF, iF_t c1, iF_f c2]]
                rw [show (rmF RP CE m0 q (b + 1)) = (upd (rmF RP CE m0 q b) (m0 * 5 + b) (nI (d9 (CE (q + b))))) from by first | rfl | simp only [rmF, iF_t c1, iF_f c2]]
                exact hD
              exact ih1 (b + 1) H locs ls (by omega) (by omega) hP4 hD4 hS (lv_sub hl [0, 1, 2, 3] rfl)
            ·
              exact absurd c3 (nI_n9 (by omega))
          ·
            obtain rfl : k = b := by omega
            have hok := hnok
            unfold okM at hok
            rw [if_neg c2] at hok
            refine wtV (As := [.int (nI z), .int (nI 0), .int (nI 9)]) (rest := [.int (nI (m0 * 5 + k)), .ref arp]) (ci := 5) (q0 := 0) hE (kX5_digitn l G o ff ftr aso asl ace M B ape aki abo (nI M9) rB arp ark arb fb fto R awh awn awm awk amo amu CE (q + k) z 0 9 hok hz2 (qz_le hqz hz2 hall)) (cwV 3 hts gX5_readMaster_X5_digit rfl rfl rfl (by decide +kernel) ⟨Nat.le_of_ble_eq_true rfl, Nat.le_of_ble_eq_true rfl⟩) hP hK hD hS [0, 1] (by decide) rfl (Eq.trans (b := [o, ace]) rfl rfl) (W1 := [(o, .inr (5, [.int ff, .int ftr, .ref aso, .ref asl, .ref ace, .int (nI M), .int (nI B), .ref ape, .ref aki, .ref abo, .int (nI (q + k)), .int (nI M9), .int rB, .ref arp, .ref ark, .ref arb, .int fb, .int fto, .int (nI R), .ref awh, .ref awn, .ref awm, .ref awk, .ref amo, .ref amu])), (ace, aI G 240 CE), (arp, aI G 25 (rmF RP CE m0 q k))]) rfl rfl rfl rfl hl.1 rfl (Nat.le_of_ble_eq_true rfl) dX5_readMaster_33 ⟨Nat.zero_le _, Nat.zero_le _⟩ (fun H locs hP hD hS => ?_)
            refine W.eq (g2 := F0 m 36 ls [.int (-9), .int (nI (m0 * 5 + k)), .ref arp]) rfl ?_
            refine n_ast hx hb hK hP hD hS 2 rfl (k := m0 * 5 + k) (by omega) (by decide) dX5_readMaster_36 (fun H locs hP hD hS => ?_)
            have hP : va_P G.1 vwCl [(o, .inr (5, [.int ff, .int ftr, .ref aso, .ref asl, .ref ace, .int (nI M), .int (nI B), .ref ape, .ref aki, .ref abo, .int (nI (q + k)), .int (nI M9), .int rB, .ref arp, .ref ark, .ref arb, .int fb, .int fto, .int (nI R), .ref awh, .ref awn, .ref awm, .ref awk, .ref amo, .ref amu])), (ace, aI G 240 CE), (arp, aI G 25 (upd (rmF RP CE m0 q k) (m0 * 5 + k) (-9)))] H := hP
            have hD : va_D A [(o, .inr (5, [.int ff, .int ftr, .ref aso, .ref asl, .ref ace, .int (nI M), .int (nI B), .ref ape, .ref aki, .ref abo, .int (nI (q + k)), .int (nI M9), .int rB, .ref arp, .ref ark, .ref arb, .int fb, .int fto, .int (nI R), .ref awh, .ref awn, .ref awm, .ref awk, .ref amo, .ref amu])), (ace, aI G 240 CE), (arp, aI G 25 (upd (rmF RP CE m0 q k) (m0 * 5 + k) (-9)))] := hD
            refine lv_aload_n hx hb dX5_readMaster_37 rfl (lv_at hl 1 rfl) ?_
            refine g_get (v := .ref arp) hx hb hts ixX5_readMaster_X5 hown hK hP 0 rfl rfl 13 (by decide) lkX5_readMaster_28 rfl dX5_readMaster_38 ?_
            refine lv_iload_n hx hb dX5_readMaster_41 rfl (lv_at hl 3 rfl) ?_
            refine lv_iload_n hx hb dX5_readMaster_42 rfl (lv_at hl 0 rfl) ?_
            refine rdS (As := [.int (nI m0), .int (nI k)]) (rest := [.ref arp]) hE (kX5_spot l G m0 k ) (va_cwS 2 hts gX5_readMaster_X5_spot rfl rfl rfl (by decide +kernel) ⟨Nat.le_of_ble_eq_true rfl, Nat.le_of_ble_eq_true rfl⟩) hP hK [] rfl rfl hl.1 rfl (Nat.le_of_ble_eq_true rfl) dX5_readMaster_43 ⟨Nat.zero_le _, Nat.zero_le _⟩ ?_
            refine W.eq (g2 := F0 m 46 ls [.int (nI (m0 * 5 + k)), .ref arp]) rfl ?_
            refine n_ald hx hb hK hP 2 rfl (k := m0 * 5 + k) (by omega) (by decide) dX5_readMaster_46 ?_
            refine lv_tope (show (upd (rmF RP CE m0 q k) (m0 * 5 + k) (-9)) (m0 * 5 + k) = (-9) from upS _ _ _) ?_
            try have hd99 := (dg_of hok.2 (by omega) (by omega)).2.2.1
            refine lv_bipush (v := (-9)) hx hb dX5_readMaster_47 (by decide) ?_
            refine lv_icmp_ne (tgt := 54) hx hb dX5_readMaster_49 (by decide) (fun c5 => ?_) (fun c5 => ?_)
            ·
              exact absurd rfl c5
            ·
              refine lv_iconst (v := nI 0) hx hb dX5_readMaster_52 (by decide) ?_
              exact hret _ _ _ _ _ ((bI_f id).symm) (hP) hS dX5_readMaster_53
        ·
          refine lv_iconst (v := nI 0) hx hb dX5_readMaster_27 (by decide) ?_
          refine lv_goto (tgt := 33) hx hb dX5_readMaster_28 (by decide) ?_
          rcases Nat.lt_or_ge b k with hbk | hbk
          ·
            have hok := hall b hbk
            unfold okM at hok
            rw [if_pos c2] at hok
            refine wtV (As := [.int (nI z), .int (nI 0), .int (nI 0)]) (rest := [.int (nI (m0 * 5 + b)), .ref arp]) (ci := 5) (q0 := 0) hE (kX5_digity l G o ff ftr aso asl ace M B ape aki abo (nI M9) rB arp ark arb fb fto R awh awn awm awk amo amu CE (q + b) z 0 0 hok.1 hz2 hok.2 (by omega) (by omega)) (cwV 3 hts gX5_readMaster_X5_digit rfl rfl rfl (by decide +kernel) ⟨Nat.le_of_ble_eq_true rfl, Nat.le_of_ble_eq_true rfl⟩) hP hK hD hS [0, 1] (by decide) rfl (Eq.trans (b := [o, ace]) rfl rfl) (W1 := [(o, .inr (5, [.int ff, .int ftr, .ref aso, .ref asl, .ref ace, .int (nI M), .int (nI B), .ref ape, .ref aki, .ref abo, .int (nI ((q + b) + 1)), .int (nI M9), .int rB, .ref arp, .ref ark, .ref arb, .int fb, .int fto, .int (nI R), .ref awh, .ref awn, .ref awm, .ref awk, .ref amo, .ref amu])), (ace, aI G 240 CE), (arp, aI G 25 (rmF RP CE m0 q b))]) rfl rfl rfl rfl hl.1 rfl (Nat.le_of_ble_eq_true rfl) dX5_readMaster_33 ⟨Nat.zero_le _, Nat.zero_le _⟩ (fun H locs hP hD hS => ?_)
            refine W.eq (g2 := F0 m 36 ls [.int (nI (d9 (CE (q + b)))), .int (nI (m0 * 5 + b)), .ref arp]) rfl ?_
            refine n_ast hx hb hK hP hD hS 2 rfl (k := m0 * 5 + b) (by omega) (by decide) dX5_readMaster_36 (fun H locs hP hD hS => ?_)
            have hP : va_P G.1 vwCl [(o, .inr (5, [.int ff, .int ftr, .ref aso, .ref asl, .ref ace, .int (nI M), .int (nI B), .ref ape, .ref aki, .ref abo, .int (nI ((q + b) + 1)), .int (nI M9), .int rB, .ref arp, .ref ark, .ref arb, .int fb, .int fto, .int (nI R), .ref awh, .ref awn, .ref awm, .ref awk, .ref amo, .ref amu])), (ace, aI G 240 CE), (arp, aI G 25 (upd (rmF RP CE m0 q b) (m0 * 5 + b) (nI (d9 (CE (q + b))))))] H := hP
            have hD : va_D A [(o, .inr (5, [.int ff, .int ftr, .ref aso, .ref asl, .ref ace, .int (nI M), .int (nI B), .ref ape, .ref aki, .ref abo, .int (nI ((q + b) + 1)), .int (nI M9), .int rB, .ref arp, .ref ark, .ref arb, .int fb, .int fto, .int (nI R), .ref awh, .ref awn, .ref awm, .ref awk, .ref amo, .ref amu])), (ace, aI G 240 CE), (arp, aI G 25 (upd (rmF RP CE m0 q b) (m0 * 5 + b) (nI (d9 (CE (q + b))))))] := hD
            refine lv_aload_n hx hb dX5_readMaster_37 rfl (lv_at hl 1 rfl) ?_
            refine g_get (v := .ref arp) hx hb hts ixX5_readMaster_X5 hown hK hP 0 rfl rfl 13 (by decide) lkX5_readMaster_28 rfl dX5_readMaster_38 ?_
            refine lv_iload_n hx hb dX5_readMaster_41 rfl (lv_at hl 3 rfl) ?_
            refine lv_iload_n hx hb dX5_readMaster_42 rfl (lv_at hl 0 rfl) ?_
            refine rdS (As := [.int (nI m0), .int (nI b)]) (rest := [.ref arp]) hE (kX5_spot l G m0 b ) (va_cwS 2 hts gX5_readMaster_X5_spot rfl rfl rfl (by decide +kernel) ⟨Nat.le_of_ble_eq_true rfl, Nat.le_of_ble_eq_true rfl⟩) hP hK [] rfl rfl hl.1 rfl (Nat.le_of_ble_eq_true rfl) dX5_readMaster_43 ⟨Nat.zero_le _, Nat.zero_le _⟩ ?_
            refine W.eq (g2 := F0 m 46 ls [.int (nI (m0 * 5 + b)), .ref arp]) rfl ?_
            refine n_ald hx hb hK hP 2 rfl (k := m0 * 5 + b) (by omega) (by decide) dX5_readMaster_46 ?_
            refine lv_tope (show (upd (rmF RP CE m0 q b) (m0 * 5 + b) (nI (d9 (CE (q + b))))) (m0 * 5 + b) = nI (d9 (CE (q + b))) from upS _ _ _) ?_
            try have hd99 := (dg_of hok.2 (by omega) (by omega)).2.2.1
            refine lv_bipush (v := (-9)) hx hb dX5_readMaster_47 (by decide) ?_
            refine lv_icmp_ne (tgt := 54) hx hb dX5_readMaster_49 (by decide) (fun c6 => ?_) (fun c6 => ?_)
            ·
              refine lv_iinc (v := nI (b + 1)) (lv' := [(3, .int (nI (b + 1))), (0, .ref o), (1, .int (nI z)), (2, .int (nI m0))]) hx hb dX5_readMaster_54 hl (k := 0) rfl (show nI b + Int32.ofInt 1 = nI (b + 1) from nI_add _ 1) (by decide) rfl (fun ls hl => ?_)
              refine lv_goto (tgt := 2) hx hb dX5_readMaster_57 (by decide) ?_
              have hP7 : va_P G.1 vwCl [(o, .inr (5, [.int ff, .int ftr, .ref aso, .ref asl, .ref ace, .int (nI M), .int (nI B), .ref ape, .ref aki, .ref abo, .int (nI (q + (b + 1))), .int (nI M9), .int rB, .ref arp, .ref ark, .ref arb, .int fb, .int fto, .int (nI R), .ref awh, .ref awn, .ref awm, .ref awk, .ref amo, .ref amu])), (ace, aI G 240 CE), (arp, aI G 25 (rmF RP CE m0 q (b + 1)))] H := by
                rw [show (nI (q + (b + 1))) = (nI ((q + b) + 1)) from by first | rfl | simp only [rmF, iF_t c1, iF_t c2]]
                rw [show (rmF RP CE m0 q (b + 1)) = (upd (rmF RP CE m0 q b) (m0 * 5 + b) (nI (d9 (CE (q + b))))) from by first | rfl | simp only [rmF, iF_t c1, iF_t c2]]
                exact hP
              have hD7 : va_D A [(o, .inr (5, [.int ff, .int ftr, .ref aso, .ref asl, .ref ace, .int (nI M), .int (nI B), .ref ape, .ref aki, .ref abo, .int (nI (q + (b + 1))), .int (nI M9), .int rB, .ref arp, .ref ark, .ref arb, .int fb, .int fto, .int (nI R), .ref awh, .ref awn, .ref awm, .ref awk, .ref amo, .ref amu])), (ace, aI G 240 CE), (arp, aI G 25 (rmF RP CE m0 q (b + 1)))] := by
                rw [show (nI (q + (b + 1))) = (nI ((q + b) + 1)) from by first | rfl | simp only [rmF, iF_t c1, iF_t c2]]
                rw [show (rmF RP CE m0 q (b + 1)) = (upd (rmF RP CE m0 q b) (m0 * 5 + b) (nI (d9 (CE (q + b))))) from by first | rfl | simp only [rmF, iF_t c1, iF_t c2]]
                exact hD
              exact ih1 (b + 1) H locs ls (by omega) (by omega) hP7 hD7 hS (lv_sub hl [0, 1, 2, 3] rfl)
            ·
              exact absurd c6 (nI_n9 (by omega))
          ·
            obtain rfl : k = b := by omega
            have hok := hnok
            unfold okM at hok
            rw [if_pos c2] at hok
            refine wtV (As := [.int (nI z), .int (nI 0), .int (nI 0)]) (rest := [.int (nI (m0 * 5 + k)), .ref arp]) (ci := 5) (q0 := 0) hE (kX5_digitn l G o ff ftr aso asl ace M B ape aki abo (nI M9) rB arp ark arb fb fto R awh awn awm awk amo amu CE (q + k) z 0 0 hok hz2 (qz_le hqz hz2 hall)) (cwV 3 hts gX5_readMaster_X5_digit rfl rfl rfl (by decide +kernel) ⟨Nat.le_of_ble_eq_true rfl, Nat.le_of_ble_eq_true rfl⟩) hP hK hD hS [0, 1] (by decide) rfl (Eq.trans (b := [o, ace]) rfl rfl) (W1 := [(o, .inr (5, [.int ff, .int ftr, .ref aso, .ref asl, .ref ace, .int (nI M), .int (nI B), .ref ape, .ref aki, .ref abo, .int (nI (q + k)), .int (nI M9), .int rB, .ref arp, .ref ark, .ref arb, .int fb, .int fto, .int (nI R), .ref awh, .ref awn, .ref awm, .ref awk, .ref amo, .ref amu])), (ace, aI G 240 CE), (arp, aI G 25 (rmF RP CE m0 q k))]) rfl rfl rfl rfl hl.1 rfl (Nat.le_of_ble_eq_true rfl) dX5_readMaster_33 ⟨Nat.zero_le _, Nat.zero_le _⟩ (fun H locs hP hD hS => ?_)
            refine W.eq (g2 := F0 m 36 ls [.int (-9), .int (nI (m0 * 5 + k)), .ref arp]) rfl ?_
            refine n_ast hx hb hK hP hD hS 2 rfl (k := m0 * 5 + k) (by omega) (by decide) dX5_readMaster_36 (fun H locs hP hD hS => ?_)
            have hP : va_P G.1 vwCl [(o, .inr (5, [.int ff, .int ftr, .ref aso, .ref asl, .ref ace, .int (nI M), .int (nI B), .ref ape, .ref aki, .ref abo, .int (nI (q + k)), .int (nI M9), .int rB, .ref arp, .ref ark, .ref arb, .int fb, .int fto, .int (nI R), .ref awh, .ref awn, .ref awm, .ref awk, .ref amo, .ref amu])), (ace, aI G 240 CE), (arp, aI G 25 (upd (rmF RP CE m0 q k) (m0 * 5 + k) (-9)))] H := hP
            have hD : va_D A [(o, .inr (5, [.int ff, .int ftr, .ref aso, .ref asl, .ref ace, .int (nI M), .int (nI B), .ref ape, .ref aki, .ref abo, .int (nI (q + k)), .int (nI M9), .int rB, .ref arp, .ref ark, .ref arb, .int fb, .int fto, .int (nI R), .ref awh, .ref awn, .ref awm, .ref awk, .ref amo, .ref amu])), (ace, aI G 240 CE), (arp, aI G 25 (upd (rmF RP CE m0 q k) (m0 * 5 + k) (-9)))] := hD
            refine lv_aload_n hx hb dX5_readMaster_37 rfl (lv_at hl 1 rfl) ?_
            refine g_get (v := .ref arp) hx hb hts ixX5_readMaster_X5 hown hK hP 0 rfl rfl 13 (by decide) lkX5_readMaster_28 rfl dX5_readMaster_38 ?_
            refine lv_iload_n hx hb dX5_readMaster_41 rfl (lv_at hl 3 rfl) ?_
            refine lv_iload_n hx hb dX5_readMaster_42 rfl (lv_at hl 0 rfl) ?_
            refine rdS (As := [.int (nI m0), .int (nI k)]) (rest := [.ref arp]) hE (kX5_spot l G m0 k ) (va_cwS 2 hts gX5_readMaster_X5_spot rfl rfl rfl (by decide +kernel) ⟨Nat.le_of_ble_eq_true rfl, Nat.le_of_ble_eq_true rfl⟩) hP hK [] rfl rfl hl.1 rfl (Nat.le_of_ble_eq_true rfl) dX5_readMaster_43 ⟨Nat.zero_le _, Nat.zero_le _⟩ ?_
            refine W.eq (g2 := F0 m 46 ls [.int (nI (m0 * 5 + k)), .ref arp]) rfl ?_
            refine n_ald hx hb hK hP 2 rfl (k := m0 * 5 + k) (by omega) (by decide) dX5_readMaster_46 ?_
            refine lv_tope (show (upd (rmF RP CE m0 q k) (m0 * 5 + k) (-9)) (m0 * 5 + k) = (-9) from upS _ _ _) ?_
            try have hd99 := (dg_of hok.2 (by omega) (by omega)).2.2.1
            refine lv_bipush (v := (-9)) hx hb dX5_readMaster_47 (by decide) ?_
            refine lv_icmp_ne (tgt := 54) hx hb dX5_readMaster_49 (by decide) (fun c8 => ?_) (fun c8 => ?_)
            ·
              exact absurd rfl c8
            ·
              refine lv_iconst (v := nI 0) hx hb dX5_readMaster_52 (by decide) ?_
              exact hret _ _ _ _ _ ((bI_f id).symm) (hP) hS dX5_readMaster_53
  have hP9 : va_P G.1 vwCl [(o, .inr (5, [.int ff, .int ftr, .ref aso, .ref asl, .ref ace, .int (nI M), .int (nI B), .ref ape, .ref aki, .ref abo, .int (nI (q + 0)), .int (nI M9), .int rB, .ref arp, .ref ark, .ref arb, .int fb, .int fto, .int (nI R), .ref awh, .ref awn, .ref awm, .ref awk, .ref amo, .ref amu])), (ace, aI G 240 CE), (arp, aI G 25 (rmF RP CE m0 q 0))] s.heap := by
    rw [show (nI (q + 0)) = (nI q) from by first | rfl | simp only [rmF]]
    rw [show (rmF RP CE m0 q 0) = (RP) from by first | rfl | simp only [rmF]]
    exact hP
  have hD9 : va_D A [(o, .inr (5, [.int ff, .int ftr, .ref aso, .ref asl, .ref ace, .int (nI M), .int (nI B), .ref ape, .ref aki, .ref abo, .int (nI (q + 0)), .int (nI M9), .int rB, .ref arp, .ref ark, .ref arb, .int fb, .int fto, .int (nI R), .ref awh, .ref awn, .ref awm, .ref awk, .ref amo, .ref amu])), (ace, aI G 240 CE), (arp, aI G 25 (rmF RP CE m0 q 0))] := by
    rw [show (nI (q + 0)) = (nI q) from by first | rfl | simp only [rmF]]
    rw [show (rmF RP CE m0 q 0) = (RP) from by first | rfl | simp only [rmF]]
    exact hD
  exact loop1 (k + 1) 0 s.heap [] ls (by omega) (by omega) hP9 hD9 hS (lv_sub hl [0, 1, 2, 3] rfl)

theorem ixX5_readBoy_X5 : ∀ w ∈ wsX50, w ∈ wsX5_readBoy := fun _ h => List.mem_cons_of_mem _ (List.mem_append_right _ h)
theorem lkX5_readBoy_71 : Cond.fieldLink RX5 71 (TX5 10).1 (TX5 10).2.1 (TX5 10).2.2.1 ∈ wsX5_readBoy := List.mem_of_getElem? (i := 1) rfl
theorem lkX5_readBoy_16 : Cond.fieldLink RX5 16 (TX5 4).1 (TX5 4).2.1 (TX5 4).2.2.1 ∈ wsX5_readBoy := List.mem_of_getElem? (i := 2) rfl
theorem lkX5_readBoy_31 : Cond.fieldLink RX5 31 (TX5 14).1 (TX5 14).2.1 (TX5 14).2.2.1 ∈ wsX5_readBoy := List.mem_of_getElem? (i := 3) rfl
theorem lkX5_readBoy_95 : Cond.fieldLink RX5 95 (TX5 12).1 (TX5 12).2.1 (TX5 12).2.2.1 ∈ wsX5_readBoy := List.mem_of_getElem? (i := 4) rfl
theorem lkX5_readBoy_34 : Cond.fieldLink RX5 34 (TX5 15).1 (TX5 15).2.1 (TX5 15).2.2.1 ∈ wsX5_readBoy := List.mem_of_getElem? (i := 5) rfl
theorem lkX5_readBoy_92 : Cond.fieldLink RX5 92 (TX5 11).1 (TX5 11).2.1 (TX5 11).2.2.1 ∈ wsX5_readBoy := List.mem_of_getElem? (i := 6) rfl
set_option maxHeartbeats 4000000 in
set_option maxRecDepth 100000 in
theorem kX5_readBoyy (l : Launch) (G : Gl) (o : Nat) (ff : Int32) (ftr : Int32) (aso : Nat) (asl : Nat) (ace : Nat) (M : Nat) (B : Nat) (ape : Nat) (aki : Nat) (abo : Nat) (arp : Nat) (ark : Nat) (arb : Nat) (fb : Int32) (fto : Int32) (R : Nat) (awh : Nat) (awn : Nat) (awm : Nat) (awk : Nat) (amo : Nat) (amu : Nat) (CE : Nat → Int32) (RK : Nat → Int32) (RB : Nat → Int32) (q : Nat) (z : Nat) (M9 : Nat) (c0 : Nat) (hM9 : M9 ≤ 5) (hM2 : 2 ≤ M9) (hc4 : c0 < 4) (hz2 : z ≤ 240) (hq : q + 1 < z) (hk1 : ¬ CE q < nI 98) (hk2 : ¬ nI 100 < CE q) (hd9 : dgt (CE (q + 1)) 0 (M9 - 1)) : Wt l G yX5_readBoy wsX5_readBoy ({ frames := 2, cells := 0, slots := 0, locals := 45 } : Room) [.ref o, .int (nI z)] [(o, .inr (5, [.int ff, .int ftr, .ref aso, .ref asl, .ref ace, .int (nI M), .int (nI B), .ref ape, .ref aki, .ref abo, .int (nI q), .int (nI M9), .int (nI c0), .ref arp, .ref ark, .ref arb, .int fb, .int fto, .int (nI R), .ref awh, .ref awn, .ref awm, .ref awk, .ref amo, .ref amu])), (ace, aI G 240 CE), (ark, aI G 4 RK), (arb, aI G 4 RB)] [(o, .inr (5, [.int ff, .int ftr, .ref aso, .ref asl, .ref ace, .int (nI M), .int (nI B), .ref ape, .ref aki, .ref abo, .int (nI (q + 2)), .int (nI M9), .int (nI (c0 + 1)), .ref arp, .ref ark, .ref arb, .int fb, .int fto, .int (nI R), .ref awh, .ref awn, .ref awm, .ref awk, .ref amo, .ref amu])), (ace, aI G 240 CE), (ark, aI G 4 (upd RK c0 (nI (k9 (CE q))))), (arb, aI G 4 (upd RB c0 (nI (d9 (CE (q + 1))))))] (some (.int (bI True))) := by
  refine Wt.ofZ (cc := cX5_readBoy) (maxL := 3) (by decide) rfl (Nat.le_of_ble_eq_true rfl) ?_
  intro p e s m below meth c Q A ls hE hP hK hD hS hl hret
  obtain ⟨hx, hb, hml, hown, hts⟩ := id hE
  have hl : lv_has ls 3 [(0, .ref o), (1, .int (nI z))] := hl
  refine lv_aload_n hx hb dX5_readBoy_0 rfl (lv_at hl 0 rfl) ?_
  refine g_get (v := .int (nI q)) hx hb hts ixX5_readBoy_X5 hown hK hP 0 rfl rfl 10 (by decide) lkX5_readBoy_71 rfl dX5_readBoy_1 ?_
  refine lv_iload_n hx hb dX5_readBoy_4 rfl (lv_at hl 1 rfl) ?_
  refine ic_ge (tgt := 20) hx hb (by omega) (by omega) dX5_readBoy_5 (by decide) (fun c1 => ?_) (fun c1 => ?_)
  ·
    omega
  ·
    refine lv_aload_n hx hb dX5_readBoy_8 rfl (lv_at hl 0 rfl) ?_
    refine g_get (v := .ref ace) hx hb hts ixX5_readBoy_X5 hown hK hP 0 rfl rfl 4 (by decide) lkX5_readBoy_16 rfl dX5_readBoy_9 ?_
    refine lv_aload_n hx hb dX5_readBoy_12 rfl (lv_at hl 0 rfl) ?_
    refine g_get (v := .int (nI q)) hx hb hts ixX5_readBoy_X5 hown hK hP 0 rfl rfl 10 (by decide) lkX5_readBoy_71 rfl dX5_readBoy_13 ?_
    refine n_ald hx hb hK hP 1 rfl (k := q) (by omega) (by decide) dX5_readBoy_16 ?_
    refine lv_goto (tgt := 21) hx hb dX5_readBoy_17 (by decide) ?_
    refine lv_istore_n (lv' := [(2, .int (CE q)), (0, .ref o), (1, .int (nI z))]) hx hb dX5_readBoy_21 rfl hl (by decide) rfl (fun ls hl => ?_)
    refine lv_aload_n hx hb dX5_readBoy_22 rfl (lv_at hl 1 rfl) ?_
    refine g_get (v := .ref ark) hx hb hts ixX5_readBoy_X5 hown hK hP 0 rfl rfl 14 (by decide) lkX5_readBoy_31 rfl dX5_readBoy_23 ?_
    refine lv_aload_n hx hb dX5_readBoy_26 rfl (lv_at hl 1 rfl) ?_
    refine g_get (v := .int (nI c0)) hx hb hts ixX5_readBoy_X5 hown hK hP 0 rfl rfl 12 (by decide) lkX5_readBoy_95 rfl dX5_readBoy_27 ?_
    refine lv_iload_n hx hb dX5_readBoy_30 rfl (lv_at hl 0 rfl) ?_
    refine lv_bipush (v := nI 98) hx hb dX5_readBoy_31 (by decide) ?_
    refine lv_icmp_ne (tgt := 40) hx hb dX5_readBoy_33 (by decide) (fun c2 => ?_) (fun c2 => ?_)
    ·
      refine lv_iload_n hx hb dX5_readBoy_40 rfl (lv_at hl 0 rfl) ?_
      refine lv_bipush (v := nI 99) hx hb dX5_readBoy_41 (by decide) ?_
      refine lv_icmp_ne (tgt := 50) hx hb dX5_readBoy_43 (by decide) (fun c3 => ?_) (fun c3 => ?_)
      ·
        refine lv_iload_n hx hb dX5_readBoy_50 rfl (lv_at hl 0 rfl) ?_
        refine lv_bipush (v := nI 100) hx hb dX5_readBoy_51 (by decide) ?_
        refine lv_icmp_ne (tgt := 60) hx hb dX5_readBoy_53 (by decide) (fun c4 => ?_) (fun c4 => ?_)
        ·
          refine lv_bipush (v := (-9)) hx hb dX5_readBoy_60 (by decide) ?_
          exact absurd (kn_of hk1 hk2) (k9_no c2 c3 c4)
        ·
          refine lv_iconst (v := nI 2) hx hb dX5_readBoy_56 (by decide) ?_
          refine lv_goto (tgt := 62) hx hb dX5_readBoy_57 (by decide) ?_
          refine lv_tope (show nI 2 = nI (k9 (CE q)) from k9_2 c4) ?_
          refine n_ast hx hb hK hP hD hS 2 rfl (k := c0) (by omega) (by decide) dX5_readBoy_62 (fun H locs hP hD hS => ?_)
          have hP : va_P G.1 vwCl [(o, .inr (5, [.int ff, .int ftr, .ref aso, .ref asl, .ref ace, .int (nI M), .int (nI B), .ref ape, .ref aki, .ref abo, .int (nI q), .int (nI M9), .int (nI c0), .ref arp, .ref ark, .ref arb, .int fb, .int fto, .int (nI R), .ref awh, .ref awn, .ref awm, .ref awk, .ref amo, .ref amu])), (ace, aI G 240 CE), (ark, aI G 4 (upd RK c0 (nI (k9 (CE q))))), (arb, aI G 4 RB)] H := hP
          have hD : va_D A [(o, .inr (5, [.int ff, .int ftr, .ref aso, .ref asl, .ref ace, .int (nI M), .int (nI B), .ref ape, .ref aki, .ref abo, .int (nI q), .int (nI M9), .int (nI c0), .ref arp, .ref ark, .ref arb, .int fb, .int fto, .int (nI R), .ref awh, .ref awn, .ref awm, .ref awk, .ref amo, .ref amu])), (ace, aI G 240 CE), (ark, aI G 4 (upd RK c0 (nI (k9 (CE q))))), (arb, aI G 4 RB)] := hD
          refine lv_aload_n hx hb dX5_readBoy_63 rfl (lv_at hl 1 rfl) ?_
          refine g_get (v := .ref ark) hx hb hts ixX5_readBoy_X5 hown hK hP 0 rfl rfl 14 (by decide) lkX5_readBoy_31 rfl dX5_readBoy_64 ?_
          refine lv_aload_n hx hb dX5_readBoy_67 rfl (lv_at hl 1 rfl) ?_
          refine g_get (v := .int (nI c0)) hx hb hts ixX5_readBoy_X5 hown hK hP 0 rfl rfl 12 (by decide) lkX5_readBoy_95 rfl dX5_readBoy_68 ?_
          refine n_ald hx hb hK hP 2 rfl (k := c0) (by omega) (by decide) dX5_readBoy_71 ?_
          refine lv_tope (show (upd RK c0 (nI (k9 (CE q)))) c0 = nI (k9 (CE q)) from upS _ _ _) ?_
          have hk99 := (kn_of hk1 hk2).1
          refine lv_bipush (v := (-9)) hx hb dX5_readBoy_72 (by decide) ?_
          refine lv_icmp_ne (tgt := 79) hx hb dX5_readBoy_74 (by decide) (fun c5 => ?_) (fun c5 => ?_)
          ·
            refine lv_aload_n hx hb dX5_readBoy_79 rfl (lv_at hl 1 rfl) ?_
            refine lv_dup hx hb dX5_readBoy_80 rfl ?_
            refine g_get (v := .int (nI q)) hx hb hts ixX5_readBoy_X5 hown hK hP 0 rfl rfl 10 (by decide) lkX5_readBoy_71 rfl dX5_readBoy_81 ?_
            refine lv_iconst (v := nI 1) hx hb dX5_readBoy_84 (by decide) ?_
            refine lv_iadd hx hb dX5_readBoy_85 ?_
            refine lv_tope (show (nI q) + (nI 1) = nI (q + 1) from nI_add _ _) ?_
            refine g_put (v := (nI (q + 1))) hx hb hts ixX5_readBoy_X5 tyX5 tyX5_ok nmX5 hown hK hP hD hS 0 rfl rfl 10 (by decide) lkX5_readBoy_71 rfl rfl (Nat.le_of_ble_eq_true rfl) dX5_readBoy_86 (fun H locs hP hD hS => ?_)
            have hP : va_P G.1 vwCl [(o, .inr (5, [.int ff, .int ftr, .ref aso, .ref asl, .ref ace, .int (nI M), .int (nI B), .ref ape, .ref aki, .ref abo, .int (nI (q + 1)), .int (nI M9), .int (nI c0), .ref arp, .ref ark, .ref arb, .int fb, .int fto, .int (nI R), .ref awh, .ref awn, .ref awm, .ref awk, .ref amo, .ref amu])), (ace, aI G 240 CE), (ark, aI G 4 (upd RK c0 (nI (k9 (CE q))))), (arb, aI G 4 RB)] H := hP
            have hD : va_D A [(o, .inr (5, [.int ff, .int ftr, .ref aso, .ref asl, .ref ace, .int (nI M), .int (nI B), .ref ape, .ref aki, .ref abo, .int (nI (q + 1)), .int (nI M9), .int (nI c0), .ref arp, .ref ark, .ref arb, .int fb, .int fto, .int (nI R), .ref awh, .ref awn, .ref awm, .ref awk, .ref amo, .ref amu])), (ace, aI G 240 CE), (ark, aI G 4 (upd RK c0 (nI (k9 (CE q))))), (arb, aI G 4 RB)] := hD
            refine lv_aload_n hx hb dX5_readBoy_89 rfl (lv_at hl 1 rfl) ?_
            refine g_get (v := .ref arb) hx hb hts ixX5_readBoy_X5 hown hK hP 0 rfl rfl 15 (by decide) lkX5_readBoy_34 rfl dX5_readBoy_90 ?_
            refine lv_aload_n hx hb dX5_readBoy_93 rfl (lv_at hl 1 rfl) ?_
            refine g_get (v := .int (nI c0)) hx hb hts ixX5_readBoy_X5 hown hK hP 0 rfl rfl 12 (by decide) lkX5_readBoy_95 rfl dX5_readBoy_94 ?_
            refine lv_aload_n hx hb dX5_readBoy_97 rfl (lv_at hl 1 rfl) ?_
            refine lv_iload_n hx hb dX5_readBoy_98 rfl (lv_at hl 2 rfl) ?_
            refine lv_iconst (v := nI 0) hx hb dX5_readBoy_99 (by decide) ?_
            refine lv_aload_n hx hb dX5_readBoy_100 rfl (lv_at hl 1 rfl) ?_
            refine g_get (v := .int (nI M9)) hx hb hts ixX5_readBoy_X5 hown hK hP 0 rfl rfl 11 (by decide) lkX5_readBoy_92 rfl dX5_readBoy_101 ?_
            refine lv_iconst (v := nI 1) hx hb dX5_readBoy_104 (by decide) ?_
            refine lv_isub hx hb dX5_readBoy_105 ?_
            refine lv_tope (show (nI M9) - (nI 1) = nI (M9 - 1) from pk_sub (by omega)) ?_
            refine wtV (As := [.int (nI z), .int (nI 0), .int (nI (M9 - 1))]) (rest := [.int (nI c0), .ref arb]) (ci := 5) (q0 := 0) hE (kX5_digity l G o ff ftr aso asl ace M B ape aki abo (nI M9) (nI c0) arp ark arb fb fto R awh awn awm awk amo amu CE (q + 1) z 0 (M9 - 1) (by omega) hz2 hd9 (by omega) (by omega)) (cwV 3 hts gX5_readBoy_X5_digit rfl rfl rfl (by decide +kernel) ⟨Nat.le_of_ble_eq_true rfl, Nat.le_of_ble_eq_true rfl⟩) hP hK hD hS [0, 1] (by decide) rfl (Eq.trans (b := [o, ace]) rfl rfl) (W1 := [(o, .inr (5, [.int ff, .int ftr, .ref aso, .ref asl, .ref ace, .int (nI M), .int (nI B), .ref ape, .ref aki, .ref abo, .int (nI ((q + 1) + 1)), .int (nI M9), .int (nI c0), .ref arp, .ref ark, .ref arb, .int fb, .int fto, .int (nI R), .ref awh, .ref awn, .ref awm, .ref awk, .ref amo, .ref amu])), (ace, aI G 240 CE), (ark, aI G 4 (upd RK c0 (nI (k9 (CE q))))), (arb, aI G 4 RB)]) rfl rfl rfl rfl hl.1 rfl (Nat.le_of_ble_eq_true rfl) dX5_readBoy_106 ⟨Nat.zero_le _, Nat.zero_le _⟩ (fun H locs hP hD hS => ?_)
            refine W.eq (g2 := F0 m 109 ls [.int (nI (d9 (CE (q + 1)))), .int (nI c0), .ref arb]) rfl ?_
            refine n_ast hx hb hK hP hD hS 3 rfl (k := c0) (by omega) (by decide) dX5_readBoy_109 (fun H locs hP hD hS => ?_)
            have hP : va_P G.1 vwCl [(o, .inr (5, [.int ff, .int ftr, .ref aso, .ref asl, .ref ace, .int (nI M), .int (nI B), .ref ape, .ref aki, .ref abo, .int (nI ((q + 1) + 1)), .int (nI M9), .int (nI c0), .ref arp, .ref ark, .ref arb, .int fb, .int fto, .int (nI R), .ref awh, .ref awn, .ref awm, .ref awk, .ref amo, .ref amu])), (ace, aI G 240 CE), (ark, aI G 4 (upd RK c0 (nI (k9 (CE q))))), (arb, aI G 4 (upd RB c0 (nI (d9 (CE (q + 1))))))] H := hP
            have hD : va_D A [(o, .inr (5, [.int ff, .int ftr, .ref aso, .ref asl, .ref ace, .int (nI M), .int (nI B), .ref ape, .ref aki, .ref abo, .int (nI ((q + 1) + 1)), .int (nI M9), .int (nI c0), .ref arp, .ref ark, .ref arb, .int fb, .int fto, .int (nI R), .ref awh, .ref awn, .ref awm, .ref awk, .ref amo, .ref amu])), (ace, aI G 240 CE), (ark, aI G 4 (upd RK c0 (nI (k9 (CE q))))), (arb, aI G 4 (upd RB c0 (nI (d9 (CE (q + 1))))))] := hD
            refine lv_aload_n hx hb dX5_readBoy_110 rfl (lv_at hl 1 rfl) ?_
            refine lv_dup hx hb dX5_readBoy_111 rfl ?_
            refine g_get (v := .int (nI c0)) hx hb hts ixX5_readBoy_X5 hown hK hP 0 rfl rfl 12 (by decide) lkX5_readBoy_95 rfl dX5_readBoy_112 ?_
            refine lv_iconst (v := nI 1) hx hb dX5_readBoy_115 (by decide) ?_
            refine lv_iadd hx hb dX5_readBoy_116 ?_
            refine lv_tope (show (nI c0) + (nI 1) = nI (c0 + 1) from nI_add _ _) ?_
            refine g_put (v := (nI (c0 + 1))) hx hb hts ixX5_readBoy_X5 tyX5 tyX5_ok nmX5 hown hK hP hD hS 0 rfl rfl 12 (by decide) lkX5_readBoy_95 rfl rfl (Nat.le_of_ble_eq_true rfl) dX5_readBoy_117 (fun H locs hP hD hS => ?_)
            have hP : va_P G.1 vwCl [(o, .inr (5, [.int ff, .int ftr, .ref aso, .ref asl, .ref ace, .int (nI M), .int (nI B), .ref ape, .ref aki, .ref abo, .int (nI ((q + 1) + 1)), .int (nI M9), .int (nI (c0 + 1)), .ref arp, .ref ark, .ref arb, .int fb, .int fto, .int (nI R), .ref awh, .ref awn, .ref awm, .ref awk, .ref amo, .ref amu])), (ace, aI G 240 CE), (ark, aI G 4 (upd RK c0 (nI (k9 (CE q))))), (arb, aI G 4 (upd RB c0 (nI (d9 (CE (q + 1))))))] H := hP
            have hD : va_D A [(o, .inr (5, [.int ff, .int ftr, .ref aso, .ref asl, .ref ace, .int (nI M), .int (nI B), .ref ape, .ref aki, .ref abo, .int (nI ((q + 1) + 1)), .int (nI M9), .int (nI (c0 + 1)), .ref arp, .ref ark, .ref arb, .int fb, .int fto, .int (nI R), .ref awh, .ref awn, .ref awm, .ref awk, .ref amo, .ref amu])), (ace, aI G 240 CE), (ark, aI G 4 (upd RK c0 (nI (k9 (CE q))))), (arb, aI G 4 (upd RB c0 (nI (d9 (CE (q + 1))))))] := hD
            refine lv_aload_n hx hb dX5_readBoy_120 rfl (lv_at hl 1 rfl) ?_
            refine g_get (v := .ref arb) hx hb hts ixX5_readBoy_X5 hown hK hP 0 rfl rfl 15 (by decide) lkX5_readBoy_34 rfl dX5_readBoy_121 ?_
            refine lv_aload_n hx hb dX5_readBoy_124 rfl (lv_at hl 1 rfl) ?_
            refine g_get (v := .int (nI (c0 + 1))) hx hb hts ixX5_readBoy_X5 hown hK hP 0 rfl rfl 12 (by decide) lkX5_readBoy_95 rfl dX5_readBoy_125 ?_
            refine lv_iconst (v := nI 1) hx hb dX5_readBoy_128 (by decide) ?_
            refine lv_isub hx hb dX5_readBoy_129 ?_
            refine lv_tope (show (nI (c0 + 1)) - (nI 1) = nI ((c0 + 1) - 1) from pk_sub (by omega)) ?_
            refine n_ald hx hb hK hP 3 rfl (k := (c0 + 1) - 1) (by omega) (by decide) dX5_readBoy_130 ?_
            refine lv_tope (show (upd RB c0 (nI (d9 (CE (q + 1))))) ((c0 + 1) - 1) = nI (d9 (CE (q + 1))) from upS _ _ _) ?_
            have hd99 := (dg_of hd9 (by omega) (by omega)).2.2.1
            refine lv_bipush (v := (-9)) hx hb dX5_readBoy_131 (by decide) ?_
            refine lv_icmp_eq (tgt := 140) hx hb dX5_readBoy_133 (by decide) (fun c6 => ?_) (fun c6 => ?_)
            ·
              exact absurd c6 (nI_n9 (by omega))
            ·
              refine lv_iconst (v := nI 1) hx hb dX5_readBoy_136 (by decide) ?_
              refine lv_goto (tgt := 141) hx hb dX5_readBoy_137 (by decide) ?_
              exact hret _ _ _ _ _ ((bI_t True.intro).symm) (by first | with_reducible exact hP | (simp only [iF_t c1, iF_f c2, iF_f (show ¬ CE q = 98 from c2), iF_f c3, iF_f (show ¬ CE q = 99 from c3), iF_t c4, iF_t (show CE q = 100 from c4)]; with_reducible exact hP) | contradiction | (simp only [iF_t c1, iF_f c2, iF_f (show ¬ CE q = 98 from c2), iF_f c3, iF_f (show ¬ CE q = 99 from c3), iF_t c4, iF_t (show CE q = 100 from c4)]; exact hP) | exact hP) hS dX5_readBoy_141
          ·
            exact absurd c5 (nI_n9 (by omega))
      ·
        refine lv_iconst (v := nI 1) hx hb dX5_readBoy_46 (by decide) ?_
        refine lv_goto (tgt := 62) hx hb dX5_readBoy_47 (by decide) ?_
        refine lv_tope (show nI 1 = nI (k9 (CE q)) from k9_1 c3) ?_
        refine n_ast hx hb hK hP hD hS 2 rfl (k := c0) (by omega) (by decide) dX5_readBoy_62 (fun H locs hP hD hS => ?_)
        have hP : va_P G.1 vwCl [(o, .inr (5, [.int ff, .int ftr, .ref aso, .ref asl, .ref ace, .int (nI M), .int (nI B), .ref ape, .ref aki, .ref abo, .int (nI q), .int (nI M9), .int (nI c0), .ref arp, .ref ark, .ref arb, .int fb, .int fto, .int (nI R), .ref awh, .ref awn, .ref awm, .ref awk, .ref amo, .ref amu])), (ace, aI G 240 CE), (ark, aI G 4 (upd RK c0 (nI (k9 (CE q))))), (arb, aI G 4 RB)] H := hP
        have hD : va_D A [(o, .inr (5, [.int ff, .int ftr, .ref aso, .ref asl, .ref ace, .int (nI M), .int (nI B), .ref ape, .ref aki, .ref abo, .int (nI q), .int (nI M9), .int (nI c0), .ref arp, .ref ark, .ref arb, .int fb, .int fto, .int (nI R), .ref awh, .ref awn, .ref awm, .ref awk, .ref amo, .ref amu])), (ace, aI G 240 CE), (ark, aI G 4 (upd RK c0 (nI (k9 (CE q))))), (arb, aI G 4 RB)] := hD
        refine lv_aload_n hx hb dX5_readBoy_63 rfl (lv_at hl 1 rfl) ?_
        refine g_get (v := .ref ark) hx hb hts ixX5_readBoy_X5 hown hK hP 0 rfl rfl 14 (by decide) lkX5_readBoy_31 rfl dX5_readBoy_64 ?_
        refine lv_aload_n hx hb dX5_readBoy_67 rfl (lv_at hl 1 rfl) ?_
        refine g_get (v := .int (nI c0)) hx hb hts ixX5_readBoy_X5 hown hK hP 0 rfl rfl 12 (by decide) lkX5_readBoy_95 rfl dX5_readBoy_68 ?_
        refine n_ald hx hb hK hP 2 rfl (k := c0) (by omega) (by decide) dX5_readBoy_71 ?_
        refine lv_tope (show (upd RK c0 (nI (k9 (CE q)))) c0 = nI (k9 (CE q)) from upS _ _ _) ?_
        have hk99 := (kn_of hk1 hk2).1
        refine lv_bipush (v := (-9)) hx hb dX5_readBoy_72 (by decide) ?_
        refine lv_icmp_ne (tgt := 79) hx hb dX5_readBoy_74 (by decide) (fun c7 => ?_) (fun c7 => ?_)
        ·
          refine lv_aload_n hx hb dX5_readBoy_79 rfl (lv_at hl 1 rfl) ?_
          refine lv_dup hx hb dX5_readBoy_80 rfl ?_
          refine g_get (v := .int (nI q)) hx hb hts ixX5_readBoy_X5 hown hK hP 0 rfl rfl 10 (by decide) lkX5_readBoy_71 rfl dX5_readBoy_81 ?_
          refine lv_iconst (v := nI 1) hx hb dX5_readBoy_84 (by decide) ?_
          refine lv_iadd hx hb dX5_readBoy_85 ?_
          refine lv_tope (show (nI q) + (nI 1) = nI (q + 1) from nI_add _ _) ?_
          refine g_put (v := (nI (q + 1))) hx hb hts ixX5_readBoy_X5 tyX5 tyX5_ok nmX5 hown hK hP hD hS 0 rfl rfl 10 (by decide) lkX5_readBoy_71 rfl rfl (Nat.le_of_ble_eq_true rfl) dX5_readBoy_86 (fun H locs hP hD hS => ?_)
          have hP : va_P G.1 vwCl [(o, .inr (5, [.int ff, .int ftr, .ref aso, .ref asl, .ref ace, .int (nI M), .int (nI B), .ref ape, .ref aki, .ref abo, .int (nI (q + 1)), .int (nI M9), .int (nI c0), .ref arp, .ref ark, .ref arb, .int fb, .int fto, .int (nI R), .ref awh, .ref awn, .ref awm, .ref awk, .ref amo, .ref amu])), (ace, aI G 240 CE), (ark, aI G 4 (upd RK c0 (nI (k9 (CE q))))), (arb, aI G 4 RB)] H := hP
          have hD : va_D A [(o, .inr (5, [.int ff, .int ftr, .ref aso, .ref asl, .ref ace, .int (nI M), .int (nI B), .ref ape, .ref aki, .ref abo, .int (nI (q + 1)), .int (nI M9), .int (nI c0), .ref arp, .ref ark, .ref arb, .int fb, .int fto, .int (nI R), .ref awh, .ref awn, .ref awm, .ref awk, .ref amo, .ref amu])), (ace, aI G 240 CE), (ark, aI G 4 (upd RK c0 (nI (k9 (CE q))))), (arb, aI G 4 RB)] := hD
          refine lv_aload_n hx hb dX5_readBoy_89 rfl (lv_at hl 1 rfl) ?_
          refine g_get (v := .ref arb) hx hb hts ixX5_readBoy_X5 hown hK hP 0 rfl rfl 15 (by decide) lkX5_readBoy_34 rfl dX5_readBoy_90 ?_
          refine lv_aload_n hx hb dX5_readBoy_93 rfl (lv_at hl 1 rfl) ?_
          refine g_get (v := .int (nI c0)) hx hb hts ixX5_readBoy_X5 hown hK hP 0 rfl rfl 12 (by decide) lkX5_readBoy_95 rfl dX5_readBoy_94 ?_
          refine lv_aload_n hx hb dX5_readBoy_97 rfl (lv_at hl 1 rfl) ?_
          refine lv_iload_n hx hb dX5_readBoy_98 rfl (lv_at hl 2 rfl) ?_
          refine lv_iconst (v := nI 0) hx hb dX5_readBoy_99 (by decide) ?_
          refine lv_aload_n hx hb dX5_readBoy_100 rfl (lv_at hl 1 rfl) ?_
          refine g_get (v := .int (nI M9)) hx hb hts ixX5_readBoy_X5 hown hK hP 0 rfl rfl 11 (by decide) lkX5_readBoy_92 rfl dX5_readBoy_101 ?_
          refine lv_iconst (v := nI 1) hx hb dX5_readBoy_104 (by decide) ?_
          refine lv_isub hx hb dX5_readBoy_105 ?_
          refine lv_tope (show (nI M9) - (nI 1) = nI (M9 - 1) from pk_sub (by omega)) ?_
          refine wtV (As := [.int (nI z), .int (nI 0), .int (nI (M9 - 1))]) (rest := [.int (nI c0), .ref arb]) (ci := 5) (q0 := 0) hE (kX5_digity l G o ff ftr aso asl ace M B ape aki abo (nI M9) (nI c0) arp ark arb fb fto R awh awn awm awk amo amu CE (q + 1) z 0 (M9 - 1) (by omega) hz2 hd9 (by omega) (by omega)) (cwV 3 hts gX5_readBoy_X5_digit rfl rfl rfl (by decide +kernel) ⟨Nat.le_of_ble_eq_true rfl, Nat.le_of_ble_eq_true rfl⟩) hP hK hD hS [0, 1] (by decide) rfl (Eq.trans (b := [o, ace]) rfl rfl) (W1 := [(o, .inr (5, [.int ff, .int ftr, .ref aso, .ref asl, .ref ace, .int (nI M), .int (nI B), .ref ape, .ref aki, .ref abo, .int (nI ((q + 1) + 1)), .int (nI M9), .int (nI c0), .ref arp, .ref ark, .ref arb, .int fb, .int fto, .int (nI R), .ref awh, .ref awn, .ref awm, .ref awk, .ref amo, .ref amu])), (ace, aI G 240 CE), (ark, aI G 4 (upd RK c0 (nI (k9 (CE q))))), (arb, aI G 4 RB)]) rfl rfl rfl rfl hl.1 rfl (Nat.le_of_ble_eq_true rfl) dX5_readBoy_106 ⟨Nat.zero_le _, Nat.zero_le _⟩ (fun H locs hP hD hS => ?_)
          refine W.eq (g2 := F0 m 109 ls [.int (nI (d9 (CE (q + 1)))), .int (nI c0), .ref arb]) rfl ?_
          refine n_ast hx hb hK hP hD hS 3 rfl (k := c0) (by omega) (by decide) dX5_readBoy_109 (fun H locs hP hD hS => ?_)
          have hP : va_P G.1 vwCl [(o, .inr (5, [.int ff, .int ftr, .ref aso, .ref asl, .ref ace, .int (nI M), .int (nI B), .ref ape, .ref aki, .ref abo, .int (nI ((q + 1) + 1)), .int (nI M9), .int (nI c0), .ref arp, .ref ark, .ref arb, .int fb, .int fto, .int (nI R), .ref awh, .ref awn, .ref awm, .ref awk, .ref amo, .ref amu])), (ace, aI G 240 CE), (ark, aI G 4 (upd RK c0 (nI (k9 (CE q))))), (arb, aI G 4 (upd RB c0 (nI (d9 (CE (q + 1))))))] H := hP
          have hD : va_D A [(o, .inr (5, [.int ff, .int ftr, .ref aso, .ref asl, .ref ace, .int (nI M), .int (nI B), .ref ape, .ref aki, .ref abo, .int (nI ((q + 1) + 1)), .int (nI M9), .int (nI c0), .ref arp, .ref ark, .ref arb, .int fb, .int fto, .int (nI R), .ref awh, .ref awn, .ref awm, .ref awk, .ref amo, .ref amu])), (ace, aI G 240 CE), (ark, aI G 4 (upd RK c0 (nI (k9 (CE q))))), (arb, aI G 4 (upd RB c0 (nI (d9 (CE (q + 1))))))] := hD
          refine lv_aload_n hx hb dX5_readBoy_110 rfl (lv_at hl 1 rfl) ?_
          refine lv_dup hx hb dX5_readBoy_111 rfl ?_
          refine g_get (v := .int (nI c0)) hx hb hts ixX5_readBoy_X5 hown hK hP 0 rfl rfl 12 (by decide) lkX5_readBoy_95 rfl dX5_readBoy_112 ?_
          refine lv_iconst (v := nI 1) hx hb dX5_readBoy_115 (by decide) ?_
          refine lv_iadd hx hb dX5_readBoy_116 ?_
          refine lv_tope (show (nI c0) + (nI 1) = nI (c0 + 1) from nI_add _ _) ?_
          refine g_put (v := (nI (c0 + 1))) hx hb hts ixX5_readBoy_X5 tyX5 tyX5_ok nmX5 hown hK hP hD hS 0 rfl rfl 12 (by decide) lkX5_readBoy_95 rfl rfl (Nat.le_of_ble_eq_true rfl) dX5_readBoy_117 (fun H locs hP hD hS => ?_)
          have hP : va_P G.1 vwCl [(o, .inr (5, [.int ff, .int ftr, .ref aso, .ref asl, .ref ace, .int (nI M), .int (nI B), .ref ape, .ref aki, .ref abo, .int (nI ((q + 1) + 1)), .int (nI M9), .int (nI (c0 + 1)), .ref arp, .ref ark, .ref arb, .int fb, .int fto, .int (nI R), .ref awh, .ref awn, .ref awm, .ref awk, .ref amo, .ref amu])), (ace, aI G 240 CE), (ark, aI G 4 (upd RK c0 (nI (k9 (CE q))))), (arb, aI G 4 (upd RB c0 (nI (d9 (CE (q + 1))))))] H := hP
          have hD : va_D A [(o, .inr (5, [.int ff, .int ftr, .ref aso, .ref asl, .ref ace, .int (nI M), .int (nI B), .ref ape, .ref aki, .ref abo, .int (nI ((q + 1) + 1)), .int (nI M9), .int (nI (c0 + 1)), .ref arp, .ref ark, .ref arb, .int fb, .int fto, .int (nI R), .ref awh, .ref awn, .ref awm, .ref awk, .ref amo, .ref amu])), (ace, aI G 240 CE), (ark, aI G 4 (upd RK c0 (nI (k9 (CE q))))), (arb, aI G 4 (upd RB c0 (nI (d9 (CE (q + 1))))))] := hD
          refine lv_aload_n hx hb dX5_readBoy_120 rfl (lv_at hl 1 rfl) ?_
          refine g_get (v := .ref arb) hx hb hts ixX5_readBoy_X5 hown hK hP 0 rfl rfl 15 (by decide) lkX5_readBoy_34 rfl dX5_readBoy_121 ?_
          refine lv_aload_n hx hb dX5_readBoy_124 rfl (lv_at hl 1 rfl) ?_
          refine g_get (v := .int (nI (c0 + 1))) hx hb hts ixX5_readBoy_X5 hown hK hP 0 rfl rfl 12 (by decide) lkX5_readBoy_95 rfl dX5_readBoy_125 ?_
          refine lv_iconst (v := nI 1) hx hb dX5_readBoy_128 (by decide) ?_
          refine lv_isub hx hb dX5_readBoy_129 ?_
          refine lv_tope (show (nI (c0 + 1)) - (nI 1) = nI ((c0 + 1) - 1) from pk_sub (by omega)) ?_
          refine n_ald hx hb hK hP 3 rfl (k := (c0 + 1) - 1) (by omega) (by decide) dX5_readBoy_130 ?_
          refine lv_tope (show (upd RB c0 (nI (d9 (CE (q + 1))))) ((c0 + 1) - 1) = nI (d9 (CE (q + 1))) from upS _ _ _) ?_
          have hd99 := (dg_of hd9 (by omega) (by omega)).2.2.1
          refine lv_bipush (v := (-9)) hx hb dX5_readBoy_131 (by decide) ?_
          refine lv_icmp_eq (tgt := 140) hx hb dX5_readBoy_133 (by decide) (fun c8 => ?_) (fun c8 => ?_)
          ·
            exact absurd c8 (nI_n9 (by omega))
          ·
            refine lv_iconst (v := nI 1) hx hb dX5_readBoy_136 (by decide) ?_
            refine lv_goto (tgt := 141) hx hb dX5_readBoy_137 (by decide) ?_
            exact hret _ _ _ _ _ ((bI_t True.intro).symm) (by first | with_reducible exact hP | (simp only [iF_t c1, iF_f c2, iF_f (show ¬ CE q = 98 from c2), iF_t c3, iF_t (show CE q = 99 from c3)]; with_reducible exact hP) | contradiction | (simp only [iF_t c1, iF_f c2, iF_f (show ¬ CE q = 98 from c2), iF_t c3, iF_t (show CE q = 99 from c3)]; exact hP) | exact hP) hS dX5_readBoy_141
        ·
          exact absurd c7 (nI_n9 (by omega))
    ·
      refine lv_iconst (v := nI 0) hx hb dX5_readBoy_36 (by decide) ?_
      refine lv_goto (tgt := 62) hx hb dX5_readBoy_37 (by decide) ?_
      refine lv_tope (show nI 0 = nI (k9 (CE q)) from k9_0 c2) ?_
      refine n_ast hx hb hK hP hD hS 2 rfl (k := c0) (by omega) (by decide) dX5_readBoy_62 (fun H locs hP hD hS => ?_)
      have hP : va_P G.1 vwCl [(o, .inr (5, [.int ff, .int ftr, .ref aso, .ref asl, .ref ace, .int (nI M), .int (nI B), .ref ape, .ref aki, .ref abo, .int (nI q), .int (nI M9), .int (nI c0), .ref arp, .ref ark, .ref arb, .int fb, .int fto, .int (nI R), .ref awh, .ref awn, .ref awm, .ref awk, .ref amo, .ref amu])), (ace, aI G 240 CE), (ark, aI G 4 (upd RK c0 (nI (k9 (CE q))))), (arb, aI G 4 RB)] H := hP
      have hD : va_D A [(o, .inr (5, [.int ff, .int ftr, .ref aso, .ref asl, .ref ace, .int (nI M), .int (nI B), .ref ape, .ref aki, .ref abo, .int (nI q), .int (nI M9), .int (nI c0), .ref arp, .ref ark, .ref arb, .int fb, .int fto, .int (nI R), .ref awh, .ref awn, .ref awm, .ref awk, .ref amo, .ref amu])), (ace, aI G 240 CE), (ark, aI G 4 (upd RK c0 (nI (k9 (CE q))))), (arb, aI G 4 RB)] := hD
      refine lv_aload_n hx hb dX5_readBoy_63 rfl (lv_at hl 1 rfl) ?_
      refine g_get (v := .ref ark) hx hb hts ixX5_readBoy_X5 hown hK hP 0 rfl rfl 14 (by decide) lkX5_readBoy_31 rfl dX5_readBoy_64 ?_
      refine lv_aload_n hx hb dX5_readBoy_67 rfl (lv_at hl 1 rfl) ?_
      refine g_get (v := .int (nI c0)) hx hb hts ixX5_readBoy_X5 hown hK hP 0 rfl rfl 12 (by decide) lkX5_readBoy_95 rfl dX5_readBoy_68 ?_
      refine n_ald hx hb hK hP 2 rfl (k := c0) (by omega) (by decide) dX5_readBoy_71 ?_
      refine lv_tope (show (upd RK c0 (nI (k9 (CE q)))) c0 = nI (k9 (CE q)) from upS _ _ _) ?_
      have hk99 := (kn_of hk1 hk2).1
      refine lv_bipush (v := (-9)) hx hb dX5_readBoy_72 (by decide) ?_
      refine lv_icmp_ne (tgt := 79) hx hb dX5_readBoy_74 (by decide) (fun c9 => ?_) (fun c9 => ?_)
      ·
        refine lv_aload_n hx hb dX5_readBoy_79 rfl (lv_at hl 1 rfl) ?_
        refine lv_dup hx hb dX5_readBoy_80 rfl ?_
        refine g_get (v := .int (nI q)) hx hb hts ixX5_readBoy_X5 hown hK hP 0 rfl rfl 10 (by decide) lkX5_readBoy_71 rfl dX5_readBoy_81 ?_
        refine lv_iconst (v := nI 1) hx hb dX5_readBoy_84 (by decide) ?_
        refine lv_iadd hx hb dX5_readBoy_85 ?_
        refine lv_tope (show (nI q) + (nI 1) = nI (q + 1) from nI_add _ _) ?_
        refine g_put (v := (nI (q + 1))) hx hb hts ixX5_readBoy_X5 tyX5 tyX5_ok nmX5 hown hK hP hD hS 0 rfl rfl 10 (by decide) lkX5_readBoy_71 rfl rfl (Nat.le_of_ble_eq_true rfl) dX5_readBoy_86 (fun H locs hP hD hS => ?_)
        have hP : va_P G.1 vwCl [(o, .inr (5, [.int ff, .int ftr, .ref aso, .ref asl, .ref ace, .int (nI M), .int (nI B), .ref ape, .ref aki, .ref abo, .int (nI (q + 1)), .int (nI M9), .int (nI c0), .ref arp, .ref ark, .ref arb, .int fb, .int fto, .int (nI R), .ref awh, .ref awn, .ref awm, .ref awk, .ref amo, .ref amu])), (ace, aI G 240 CE), (ark, aI G 4 (upd RK c0 (nI (k9 (CE q))))), (arb, aI G 4 RB)] H := hP
        have hD : va_D A [(o, .inr (5, [.int ff, .int ftr, .ref aso, .ref asl, .ref ace, .int (nI M), .int (nI B), .ref ape, .ref aki, .ref abo, .int (nI (q + 1)), .int (nI M9), .int (nI c0), .ref arp, .ref ark, .ref arb, .int fb, .int fto, .int (nI R), .ref awh, .ref awn, .ref awm, .ref awk, .ref amo, .ref amu])), (ace, aI G 240 CE), (ark, aI G 4 (upd RK c0 (nI (k9 (CE q))))), (arb, aI G 4 RB)] := hD
        refine lv_aload_n hx hb dX5_readBoy_89 rfl (lv_at hl 1 rfl) ?_
        refine g_get (v := .ref arb) hx hb hts ixX5_readBoy_X5 hown hK hP 0 rfl rfl 15 (by decide) lkX5_readBoy_34 rfl dX5_readBoy_90 ?_
        refine lv_aload_n hx hb dX5_readBoy_93 rfl (lv_at hl 1 rfl) ?_
        refine g_get (v := .int (nI c0)) hx hb hts ixX5_readBoy_X5 hown hK hP 0 rfl rfl 12 (by decide) lkX5_readBoy_95 rfl dX5_readBoy_94 ?_
        refine lv_aload_n hx hb dX5_readBoy_97 rfl (lv_at hl 1 rfl) ?_
        refine lv_iload_n hx hb dX5_readBoy_98 rfl (lv_at hl 2 rfl) ?_
        refine lv_iconst (v := nI 0) hx hb dX5_readBoy_99 (by decide) ?_
        refine lv_aload_n hx hb dX5_readBoy_100 rfl (lv_at hl 1 rfl) ?_
        refine g_get (v := .int (nI M9)) hx hb hts ixX5_readBoy_X5 hown hK hP 0 rfl rfl 11 (by decide) lkX5_readBoy_92 rfl dX5_readBoy_101 ?_
        refine lv_iconst (v := nI 1) hx hb dX5_readBoy_104 (by decide) ?_
        refine lv_isub hx hb dX5_readBoy_105 ?_
        refine lv_tope (show (nI M9) - (nI 1) = nI (M9 - 1) from pk_sub (by omega)) ?_
        refine wtV (As := [.int (nI z), .int (nI 0), .int (nI (M9 - 1))]) (rest := [.int (nI c0), .ref arb]) (ci := 5) (q0 := 0) hE (kX5_digity l G o ff ftr aso asl ace M B ape aki abo (nI M9) (nI c0) arp ark arb fb fto R awh awn awm awk amo amu CE (q + 1) z 0 (M9 - 1) (by omega) hz2 hd9 (by omega) (by omega)) (cwV 3 hts gX5_readBoy_X5_digit rfl rfl rfl (by decide +kernel) ⟨Nat.le_of_ble_eq_true rfl, Nat.le_of_ble_eq_true rfl⟩) hP hK hD hS [0, 1] (by decide) rfl (Eq.trans (b := [o, ace]) rfl rfl) (W1 := [(o, .inr (5, [.int ff, .int ftr, .ref aso, .ref asl, .ref ace, .int (nI M), .int (nI B), .ref ape, .ref aki, .ref abo, .int (nI ((q + 1) + 1)), .int (nI M9), .int (nI c0), .ref arp, .ref ark, .ref arb, .int fb, .int fto, .int (nI R), .ref awh, .ref awn, .ref awm, .ref awk, .ref amo, .ref amu])), (ace, aI G 240 CE), (ark, aI G 4 (upd RK c0 (nI (k9 (CE q))))), (arb, aI G 4 RB)]) rfl rfl rfl rfl hl.1 rfl (Nat.le_of_ble_eq_true rfl) dX5_readBoy_106 ⟨Nat.zero_le _, Nat.zero_le _⟩ (fun H locs hP hD hS => ?_)
        refine W.eq (g2 := F0 m 109 ls [.int (nI (d9 (CE (q + 1)))), .int (nI c0), .ref arb]) rfl ?_
        refine n_ast hx hb hK hP hD hS 3 rfl (k := c0) (by omega) (by decide) dX5_readBoy_109 (fun H locs hP hD hS => ?_)
        have hP : va_P G.1 vwCl [(o, .inr (5, [.int ff, .int ftr, .ref aso, .ref asl, .ref ace, .int (nI M), .int (nI B), .ref ape, .ref aki, .ref abo, .int (nI ((q + 1) + 1)), .int (nI M9), .int (nI c0), .ref arp, .ref ark, .ref arb, .int fb, .int fto, .int (nI R), .ref awh, .ref awn, .ref awm, .ref awk, .ref amo, .ref amu])), (ace, aI G 240 CE), (ark, aI G 4 (upd RK c0 (nI (k9 (CE q))))), (arb, aI G 4 (upd RB c0 (nI (d9 (CE (q + 1))))))] H := hP
        have hD : va_D A [(o, .inr (5, [.int ff, .int ftr, .ref aso, .ref asl, .ref ace, .int (nI M), .int (nI B), .ref ape, .ref aki, .ref abo, .int (nI ((q + 1) + 1)), .int (nI M9), .int (nI c0), .ref arp, .ref ark, .ref arb, .int fb, .int fto, .int (nI R), .ref awh, .ref awn, .ref awm, .ref awk, .ref amo, .ref amu])), (ace, aI G 240 CE), (ark, aI G 4 (upd RK c0 (nI (k9 (CE q))))), (arb, aI G 4 (upd RB c0 (nI (d9 (CE (q + 1))))))] := hD
        refine lv_aload_n hx hb dX5_readBoy_110 rfl (lv_at hl 1 rfl) ?_
        refine lv_dup hx hb dX5_readBoy_111 rfl ?_
        refine g_get (v := .int (nI c0)) hx hb hts ixX5_readBoy_X5 hown hK hP 0 rfl rfl 12 (by decide) lkX5_readBoy_95 rfl dX5_readBoy_112 ?_
        refine lv_iconst (v := nI 1) hx hb dX5_readBoy_115 (by decide) ?_
        refine lv_iadd hx hb dX5_readBoy_116 ?_
        refine lv_tope (show (nI c0) + (nI 1) = nI (c0 + 1) from nI_add _ _) ?_
        refine g_put (v := (nI (c0 + 1))) hx hb hts ixX5_readBoy_X5 tyX5 tyX5_ok nmX5 hown hK hP hD hS 0 rfl rfl 12 (by decide) lkX5_readBoy_95 rfl rfl (Nat.le_of_ble_eq_true rfl) dX5_readBoy_117 (fun H locs hP hD hS => ?_)
        have hP : va_P G.1 vwCl [(o, .inr (5, [.int ff, .int ftr, .ref aso, .ref asl, .ref ace, .int (nI M), .int (nI B), .ref ape, .ref aki, .ref abo, .int (nI ((q + 1) + 1)), .int (nI M9), .int (nI (c0 + 1)), .ref arp, .ref ark, .ref arb, .int fb, .int fto, .int (nI R), .ref awh, .ref awn, .ref awm, .ref awk, .ref amo, .ref amu])), (ace, aI G 240 CE), (ark, aI G 4 (upd RK c0 (nI (k9 (CE q))))), (arb, aI G 4 (upd RB c0 (nI (d9 (CE (q + 1))))))] H := hP
        have hD : va_D A [(o, .inr (5, [.int ff, .int ftr, .ref aso, .ref asl, .ref ace, .int (nI M), .int (nI B), .ref ape, .ref aki, .ref abo, .int (nI ((q + 1) + 1)), .int (nI M9), .int (nI (c0 + 1)), .ref arp, .ref ark, .ref arb, .int fb, .int fto, .int (nI R), .ref awh, .ref awn, .ref awm, .ref awk, .ref amo, .ref amu])), (ace, aI G 240 CE), (ark, aI G 4 (upd RK c0 (nI (k9 (CE q))))), (arb, aI G 4 (upd RB c0 (nI (d9 (CE (q + 1))))))] := hD
        refine lv_aload_n hx hb dX5_readBoy_120 rfl (lv_at hl 1 rfl) ?_
        refine g_get (v := .ref arb) hx hb hts ixX5_readBoy_X5 hown hK hP 0 rfl rfl 15 (by decide) lkX5_readBoy_34 rfl dX5_readBoy_121 ?_
        refine lv_aload_n hx hb dX5_readBoy_124 rfl (lv_at hl 1 rfl) ?_
        refine g_get (v := .int (nI (c0 + 1))) hx hb hts ixX5_readBoy_X5 hown hK hP 0 rfl rfl 12 (by decide) lkX5_readBoy_95 rfl dX5_readBoy_125 ?_
        refine lv_iconst (v := nI 1) hx hb dX5_readBoy_128 (by decide) ?_
        refine lv_isub hx hb dX5_readBoy_129 ?_
        refine lv_tope (show (nI (c0 + 1)) - (nI 1) = nI ((c0 + 1) - 1) from pk_sub (by omega)) ?_
        refine n_ald hx hb hK hP 3 rfl (k := (c0 + 1) - 1) (by omega) (by decide) dX5_readBoy_130 ?_
        refine lv_tope (show (upd RB c0 (nI (d9 (CE (q + 1))))) ((c0 + 1) - 1) = nI (d9 (CE (q + 1))) from upS _ _ _) ?_
        have hd99 := (dg_of hd9 (by omega) (by omega)).2.2.1
        refine lv_bipush (v := (-9)) hx hb dX5_readBoy_131 (by decide) ?_
        refine lv_icmp_eq (tgt := 140) hx hb dX5_readBoy_133 (by decide) (fun c10 => ?_) (fun c10 => ?_)
        ·
          exact absurd c10 (nI_n9 (by omega))
        ·
          refine lv_iconst (v := nI 1) hx hb dX5_readBoy_136 (by decide) ?_
          refine lv_goto (tgt := 141) hx hb dX5_readBoy_137 (by decide) ?_
          exact hret _ _ _ _ _ ((bI_t True.intro).symm) (by first | with_reducible exact hP | (simp only [iF_t c1, iF_t c2, iF_t (show CE q = 98 from c2)]; with_reducible exact hP) | contradiction | (simp only [iF_t c1, iF_t c2, iF_t (show CE q = 98 from c2)]; exact hP) | exact hP) hS dX5_readBoy_141
      ·
        exact absurd c9 (nI_n9 (by omega))

set_option maxHeartbeats 4000000 in
set_option maxRecDepth 100000 in
theorem kX5_readBoyn1 (l : Launch) (G : Gl) (o : Nat) (ff : Int32) (ftr : Int32) (aso : Nat) (asl : Nat) (ace : Nat) (M : Nat) (B : Nat) (ape : Nat) (aki : Nat) (abo : Nat) (arp : Nat) (ark : Nat) (arb : Nat) (fb : Int32) (fto : Int32) (R : Nat) (awh : Nat) (awn : Nat) (awm : Nat) (awk : Nat) (amo : Nat) (amu : Nat) (CE : Nat → Int32) (RK : Nat → Int32) (RB : Nat → Int32) (q : Nat) (z : Nat) (M9 : Nat) (c0 : Nat) (hM9 : M9 ≤ 5) (hM2 : 2 ≤ M9) (hc4 : c0 < 4) (hz2 : z ≤ 240) (hqz : q ≤ 240) (hno : ¬ (q < z ∧ ¬ CE q < nI 98 ∧ ¬ nI 100 < CE q)) : Wt l G yX5_readBoy wsX5_readBoy ({ frames := 0, cells := 0, slots := 0, locals := 0 } : Room) [.ref o, .int (nI z)] [(o, .inr (5, [.int ff, .int ftr, .ref aso, .ref asl, .ref ace, .int (nI M), .int (nI B), .ref ape, .ref aki, .ref abo, .int (nI q), .int (nI M9), .int (nI c0), .ref arp, .ref ark, .ref arb, .int fb, .int fto, .int (nI R), .ref awh, .ref awn, .ref awm, .ref awk, .ref amo, .ref amu])), (ace, aI G 240 CE), (ark, aI G 4 RK), (arb, aI G 4 RB)] [(o, .inr (5, [.int ff, .int ftr, .ref aso, .ref asl, .ref ace, .int (nI M), .int (nI B), .ref ape, .ref aki, .ref abo, .int (nI q), .int (nI M9), .int (nI c0), .ref arp, .ref ark, .ref arb, .int fb, .int fto, .int (nI R), .ref awh, .ref awn, .ref awm, .ref awk, .ref amo, .ref amu])), (ace, aI G 240 CE), (ark, aI G 4 (upd RK c0 (-9))), (arb, aI G 4 RB)] (some (.int (bI False))) := by
  refine Wt.ofZ (cc := cX5_readBoy) (maxL := 3) (by decide) rfl (Nat.le_of_ble_eq_true rfl) ?_
  intro p e s m below meth c Q A ls hE hP hK hD hS hl hret
  obtain ⟨hx, hb, hml, hown, hts⟩ := id hE
  have hl : lv_has ls 3 [(0, .ref o), (1, .int (nI z))] := hl
  refine lv_aload_n hx hb dX5_readBoy_0 rfl (lv_at hl 0 rfl) ?_
  refine g_get (v := .int (nI q)) hx hb hts ixX5_readBoy_X5 hown hK hP 0 rfl rfl 10 (by decide) lkX5_readBoy_71 rfl dX5_readBoy_1 ?_
  refine lv_iload_n hx hb dX5_readBoy_4 rfl (lv_at hl 1 rfl) ?_
  refine ic_ge (tgt := 20) hx hb (by omega) (by omega) dX5_readBoy_5 (by decide) (fun c1 => ?_) (fun c1 => ?_)
  ·
    refine lv_iconst (v := nI 0) hx hb dX5_readBoy_20 (by decide) ?_
    refine lv_istore_n (lv' := [(2, .int (nI 0)), (0, .ref o), (1, .int (nI z))]) hx hb dX5_readBoy_21 rfl hl (by decide) rfl (fun ls hl => ?_)
    refine lv_aload_n hx hb dX5_readBoy_22 rfl (lv_at hl 1 rfl) ?_
    refine g_get (v := .ref ark) hx hb hts ixX5_readBoy_X5 hown hK hP 0 rfl rfl 14 (by decide) lkX5_readBoy_31 rfl dX5_readBoy_23 ?_
    refine lv_aload_n hx hb dX5_readBoy_26 rfl (lv_at hl 1 rfl) ?_
    refine g_get (v := .int (nI c0)) hx hb hts ixX5_readBoy_X5 hown hK hP 0 rfl rfl 12 (by decide) lkX5_readBoy_95 rfl dX5_readBoy_27 ?_
    refine lv_iload_n hx hb dX5_readBoy_30 rfl (lv_at hl 0 rfl) ?_
    refine lv_bipush (v := nI 98) hx hb dX5_readBoy_31 (by decide) ?_
    refine ic_ne (tgt := 40) hx hb (by decide) (by decide) dX5_readBoy_33 (by decide) (fun c2 => ?_) (fun c2 => ?_)
    ·
      refine lv_iload_n hx hb dX5_readBoy_40 rfl (lv_at hl 0 rfl) ?_
      refine lv_bipush (v := nI 99) hx hb dX5_readBoy_41 (by decide) ?_
      refine ic_ne (tgt := 50) hx hb (by decide) (by decide) dX5_readBoy_43 (by decide) (fun c3 => ?_) (fun c3 => ?_)
      ·
        refine lv_iload_n hx hb dX5_readBoy_50 rfl (lv_at hl 0 rfl) ?_
        refine lv_bipush (v := nI 100) hx hb dX5_readBoy_51 (by decide) ?_
        refine ic_ne (tgt := 60) hx hb (by decide) (by decide) dX5_readBoy_53 (by decide) (fun c4 => ?_) (fun c4 => ?_)
        ·
          refine lv_bipush (v := (-9)) hx hb dX5_readBoy_60 (by decide) ?_
          refine n_ast hx hb hK hP hD hS 2 rfl (k := c0) (by omega) (by decide) dX5_readBoy_62 (fun H locs hP hD hS => ?_)
          have hP : va_P G.1 vwCl [(o, .inr (5, [.int ff, .int ftr, .ref aso, .ref asl, .ref ace, .int (nI M), .int (nI B), .ref ape, .ref aki, .ref abo, .int (nI q), .int (nI M9), .int (nI c0), .ref arp, .ref ark, .ref arb, .int fb, .int fto, .int (nI R), .ref awh, .ref awn, .ref awm, .ref awk, .ref amo, .ref amu])), (ace, aI G 240 CE), (ark, aI G 4 (upd RK c0 (-9))), (arb, aI G 4 RB)] H := hP
          have hD : va_D A [(o, .inr (5, [.int ff, .int ftr, .ref aso, .ref asl, .ref ace, .int (nI M), .int (nI B), .ref ape, .ref aki, .ref abo, .int (nI q), .int (nI M9), .int (nI c0), .ref arp, .ref ark, .ref arb, .int fb, .int fto, .int (nI R), .ref awh, .ref awn, .ref awm, .ref awk, .ref amo, .ref amu])), (ace, aI G 240 CE), (ark, aI G 4 (upd RK c0 (-9))), (arb, aI G 4 RB)] := hD
          refine lv_aload_n hx hb dX5_readBoy_63 rfl (lv_at hl 1 rfl) ?_
          refine g_get (v := .ref ark) hx hb hts ixX5_readBoy_X5 hown hK hP 0 rfl rfl 14 (by decide) lkX5_readBoy_31 rfl dX5_readBoy_64 ?_
          refine lv_aload_n hx hb dX5_readBoy_67 rfl (lv_at hl 1 rfl) ?_
          refine g_get (v := .int (nI c0)) hx hb hts ixX5_readBoy_X5 hown hK hP 0 rfl rfl 12 (by decide) lkX5_readBoy_95 rfl dX5_readBoy_68 ?_
          refine n_ald hx hb hK hP 2 rfl (k := c0) (by omega) (by decide) dX5_readBoy_71 ?_
          refine lv_tope (show (upd RK c0 (-9)) c0 = (-9) from upS _ _ _) ?_
          refine lv_bipush (v := (-9)) hx hb dX5_readBoy_72 (by decide) ?_
          refine lv_icmp_ne (tgt := 79) hx hb dX5_readBoy_74 (by decide) (fun c5 => ?_) (fun c5 => ?_)
          ·
            exact absurd rfl c5
          ·
            refine lv_iconst (v := nI 0) hx hb dX5_readBoy_77 (by decide) ?_
            exact hret _ _ _ _ _ ((bI_f id).symm) (hP) hS dX5_readBoy_78
        ·
          exact absurd c4 (by decide)
      ·
        exact absurd c3 (by decide)
    ·
      exact absurd c2 (by decide)
  ·
    refine lv_aload_n hx hb dX5_readBoy_8 rfl (lv_at hl 0 rfl) ?_
    refine g_get (v := .ref ace) hx hb hts ixX5_readBoy_X5 hown hK hP 0 rfl rfl 4 (by decide) lkX5_readBoy_16 rfl dX5_readBoy_9 ?_
    refine lv_aload_n hx hb dX5_readBoy_12 rfl (lv_at hl 0 rfl) ?_
    refine g_get (v := .int (nI q)) hx hb hts ixX5_readBoy_X5 hown hK hP 0 rfl rfl 10 (by decide) lkX5_readBoy_71 rfl dX5_readBoy_13 ?_
    refine n_ald hx hb hK hP 1 rfl (k := q) (by omega) (by decide) dX5_readBoy_16 ?_
    refine lv_goto (tgt := 21) hx hb dX5_readBoy_17 (by decide) ?_
    refine lv_istore_n (lv' := [(2, .int (CE q)), (0, .ref o), (1, .int (nI z))]) hx hb dX5_readBoy_21 rfl hl (by decide) rfl (fun ls hl => ?_)
    refine lv_aload_n hx hb dX5_readBoy_22 rfl (lv_at hl 1 rfl) ?_
    refine g_get (v := .ref ark) hx hb hts ixX5_readBoy_X5 hown hK hP 0 rfl rfl 14 (by decide) lkX5_readBoy_31 rfl dX5_readBoy_23 ?_
    refine lv_aload_n hx hb dX5_readBoy_26 rfl (lv_at hl 1 rfl) ?_
    refine g_get (v := .int (nI c0)) hx hb hts ixX5_readBoy_X5 hown hK hP 0 rfl rfl 12 (by decide) lkX5_readBoy_95 rfl dX5_readBoy_27 ?_
    refine lv_iload_n hx hb dX5_readBoy_30 rfl (lv_at hl 0 rfl) ?_
    refine lv_bipush (v := nI 98) hx hb dX5_readBoy_31 (by decide) ?_
    refine lv_icmp_ne (tgt := 40) hx hb dX5_readBoy_33 (by decide) (fun c6 => ?_) (fun c6 => ?_)
    ·
      refine lv_iload_n hx hb dX5_readBoy_40 rfl (lv_at hl 0 rfl) ?_
      refine lv_bipush (v := nI 99) hx hb dX5_readBoy_41 (by decide) ?_
      refine lv_icmp_ne (tgt := 50) hx hb dX5_readBoy_43 (by decide) (fun c7 => ?_) (fun c7 => ?_)
      ·
        refine lv_iload_n hx hb dX5_readBoy_50 rfl (lv_at hl 0 rfl) ?_
        refine lv_bipush (v := nI 100) hx hb dX5_readBoy_51 (by decide) ?_
        refine lv_icmp_ne (tgt := 60) hx hb dX5_readBoy_53 (by decide) (fun c8 => ?_) (fun c8 => ?_)
        ·
          refine lv_bipush (v := (-9)) hx hb dX5_readBoy_60 (by decide) ?_
          refine n_ast hx hb hK hP hD hS 2 rfl (k := c0) (by omega) (by decide) dX5_readBoy_62 (fun H locs hP hD hS => ?_)
          have hP : va_P G.1 vwCl [(o, .inr (5, [.int ff, .int ftr, .ref aso, .ref asl, .ref ace, .int (nI M), .int (nI B), .ref ape, .ref aki, .ref abo, .int (nI q), .int (nI M9), .int (nI c0), .ref arp, .ref ark, .ref arb, .int fb, .int fto, .int (nI R), .ref awh, .ref awn, .ref awm, .ref awk, .ref amo, .ref amu])), (ace, aI G 240 CE), (ark, aI G 4 (upd RK c0 (-9))), (arb, aI G 4 RB)] H := hP
          have hD : va_D A [(o, .inr (5, [.int ff, .int ftr, .ref aso, .ref asl, .ref ace, .int (nI M), .int (nI B), .ref ape, .ref aki, .ref abo, .int (nI q), .int (nI M9), .int (nI c0), .ref arp, .ref ark, .ref arb, .int fb, .int fto, .int (nI R), .ref awh, .ref awn, .ref awm, .ref awk, .ref amo, .ref amu])), (ace, aI G 240 CE), (ark, aI G 4 (upd RK c0 (-9))), (arb, aI G 4 RB)] := hD
          refine lv_aload_n hx hb dX5_readBoy_63 rfl (lv_at hl 1 rfl) ?_
          refine g_get (v := .ref ark) hx hb hts ixX5_readBoy_X5 hown hK hP 0 rfl rfl 14 (by decide) lkX5_readBoy_31 rfl dX5_readBoy_64 ?_
          refine lv_aload_n hx hb dX5_readBoy_67 rfl (lv_at hl 1 rfl) ?_
          refine g_get (v := .int (nI c0)) hx hb hts ixX5_readBoy_X5 hown hK hP 0 rfl rfl 12 (by decide) lkX5_readBoy_95 rfl dX5_readBoy_68 ?_
          refine n_ald hx hb hK hP 2 rfl (k := c0) (by omega) (by decide) dX5_readBoy_71 ?_
          refine lv_tope (show (upd RK c0 (-9)) c0 = (-9) from upS _ _ _) ?_
          refine lv_bipush (v := (-9)) hx hb dX5_readBoy_72 (by decide) ?_
          refine lv_icmp_ne (tgt := 79) hx hb dX5_readBoy_74 (by decide) (fun c9 => ?_) (fun c9 => ?_)
          ·
            exact absurd rfl c9
          ·
            refine lv_iconst (v := nI 0) hx hb dX5_readBoy_77 (by decide) ?_
            exact hret _ _ _ _ _ ((bI_f id).symm) (hP) hS dX5_readBoy_78
        ·
          refine lv_iconst (v := nI 2) hx hb dX5_readBoy_56 (by decide) ?_
          refine lv_goto (tgt := 62) hx hb dX5_readBoy_57 (by decide) ?_
          exact absurd ⟨by omega, k9_r (by first | exact Or.inl c8 | exact Or.inr (Or.inl c8) | exact Or.inr (Or.inr c8))⟩ hno
      ·
        refine lv_iconst (v := nI 1) hx hb dX5_readBoy_46 (by decide) ?_
        refine lv_goto (tgt := 62) hx hb dX5_readBoy_47 (by decide) ?_
        exact absurd ⟨by omega, k9_r (by first | exact Or.inl c7 | exact Or.inr (Or.inl c7) | exact Or.inr (Or.inr c7))⟩ hno
    ·
      refine lv_iconst (v := nI 0) hx hb dX5_readBoy_36 (by decide) ?_
      refine lv_goto (tgt := 62) hx hb dX5_readBoy_37 (by decide) ?_
      exact absurd ⟨by omega, k9_r (by first | exact Or.inl c6 | exact Or.inr (Or.inl c6) | exact Or.inr (Or.inr c6))⟩ hno
