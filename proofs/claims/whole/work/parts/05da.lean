theorem ixX5_read_X5 : ∀ w ∈ wsX50, w ∈ wsX5_read := fun _ h => List.mem_cons_of_mem _ (List.mem_append_right _ h)
theorem lkX5_read_98 : Cond.fieldLink RX5 98 (TX5 18).1 (TX5 18).2.1 (TX5 18).2.2.1 ∈ wsX5_read := List.mem_of_getElem? (i := 1) rfl
theorem lkX5_read_37 : Cond.fieldLink RX5 37 (TX5 19).1 (TX5 19).2.1 (TX5 19).2.2.1 ∈ wsX5_read := List.mem_of_getElem? (i := 2) rfl
theorem lkX5_read_40 : Cond.fieldLink RX5 40 (TX5 20).1 (TX5 20).2.1 (TX5 20).2.2.1 ∈ wsX5_read := List.mem_of_getElem? (i := 3) rfl
theorem lkX5_read_43 : Cond.fieldLink RX5 43 (TX5 21).1 (TX5 21).2.1 (TX5 21).2.2.1 ∈ wsX5_read := List.mem_of_getElem? (i := 4) rfl
theorem lkX5_read_46 : Cond.fieldLink RX5 46 (TX5 22).1 (TX5 22).2.1 (TX5 22).2.2.1 ∈ wsX5_read := List.mem_of_getElem? (i := 5) rfl
set_option maxHeartbeats 4000000 in
set_option maxRecDepth 100000 in
theorem kX5_read (l : Launch) (G : Gl) (o : Nat) (ff : Int32) (ftr : Int32) (aso : Nat) (asl : Nat) (ace : Nat) (M : Nat) (B : Nat) (ape : Nat) (aki : Nat) (abo : Nat) (at_ : Int32) (rM : Int32) (rB : Int32) (arp : Nat) (ark : Nat) (arb : Nat) (fb : Int32) (fto : Int32) (R : Nat) (awh : Nat) (awn : Nat) (awm : Nat) (awk : Nat) (amo : Nat) (amu : Nat) (W1 : Nat → Int32) (N1 : Nat → Int32) (M1 : Nat → Int32) (K1 : Nat → Int32) (a0 : Int32) (a1 : Int32) (a2 : Int32) (a3 : Int32) (hR : R ≤ 8) : Wt l G yX5_read wsX5_read ({ frames := 0, cells := 0, slots := 0, locals := 0 } : Room) [.ref o, .int a0, .int a1, .int a2, .int a3] [(o, .inr (5, [.int ff, .int ftr, .ref aso, .ref asl, .ref ace, .int (nI M), .int (nI B), .ref ape, .ref aki, .ref abo, .int at_, .int rM, .int rB, .ref arp, .ref ark, .ref arb, .int fb, .int fto, .int (nI R), .ref awh, .ref awn, .ref awm, .ref awk, .ref amo, .ref amu])), (awh, aI G 8 W1), (awn, aI G 8 N1), (awm, aI G 8 M1), (awk, aI G 8 K1)] [(o, .inr (5, [.int ff, .int ftr, .ref aso, .ref asl, .ref ace, .int (nI M), .int (nI B), .ref ape, .ref aki, .ref abo, .int at_, .int rM, .int rB, .ref arp, .ref ark, .ref arb, .int fb, .int fto, .int (nI (iF (R < 8) (R + 1) R)), .ref awh, .ref awn, .ref awm, .ref awk, .ref amo, .ref amu])), (awh, aI G 8 (iF (R < 8) (upd W1 R a0) W1)), (awn, aI G 8 (iF (R < 8) (upd N1 R a1) N1)), (awm, aI G 8 (iF (R < 8) (upd M1 R a2) M1)), (awk, aI G 8 (iF (R < 8) (upd K1 R a3) K1))] (some (.int (s_noted R))) := by
  refine Wt.ofI (cc := cX5_read) (maxL := 5) (by decide) rfl (Nat.le_of_ble_eq_true rfl) ?_
  intro p e s m below meth c Q A ls hE hP hK hD hS hl hret
  obtain ⟨hx, hb, hml, hown, hts⟩ := id hE
  have hl : lv_has ls 5 [(0, .ref o), (1, .int a0), (2, .int a1), (3, .int a2), (4, .int a3)] := hl
  refine lv_aload_n hx hb dX5_read_0 rfl (lv_at hl 0 rfl) ?_
  refine g_get (v := .int (nI R)) hx hb hts ixX5_read_X5 hown hK hP 0 rfl rfl 18 (by decide) lkX5_read_98 rfl dX5_read_1 ?_
  refine lv_bipush (v := nI 8) hx hb dX5_read_4 (by decide) ?_
  refine ic_ne (tgt := 12) hx hb (by omega) (by omega) dX5_read_6 (by decide) (fun c1 => ?_) (fun c1 => ?_)
  ·
    have h8 : R < 8 := by omega
    refine lv_aload_n hx hb dX5_read_12 rfl (lv_at hl 0 rfl) ?_
    refine g_get (v := .ref awh) hx hb hts ixX5_read_X5 hown hK hP 0 rfl rfl 19 (by decide) lkX5_read_37 rfl dX5_read_13 ?_
    refine lv_aload_n hx hb dX5_read_16 rfl (lv_at hl 0 rfl) ?_
    refine g_get (v := .int (nI R)) hx hb hts ixX5_read_X5 hown hK hP 0 rfl rfl 18 (by decide) lkX5_read_98 rfl dX5_read_17 ?_
    refine lv_iload_n hx hb dX5_read_20 rfl (lv_at hl 1 rfl) ?_
    refine n_ast hx hb hK hP hD hS 1 rfl (k := R) (by omega) (by decide) dX5_read_21 (fun H locs hP hD hS => ?_)
    have hP : va_P G.1 vwCl [(o, .inr (5, [.int ff, .int ftr, .ref aso, .ref asl, .ref ace, .int (nI M), .int (nI B), .ref ape, .ref aki, .ref abo, .int at_, .int rM, .int rB, .ref arp, .ref ark, .ref arb, .int fb, .int fto, .int (nI R), .ref awh, .ref awn, .ref awm, .ref awk, .ref amo, .ref amu])), (awh, aI G 8 (upd W1 R a0)), (awn, aI G 8 N1), (awm, aI G 8 M1), (awk, aI G 8 K1)] H := hP
    have hD : va_D A [(o, .inr (5, [.int ff, .int ftr, .ref aso, .ref asl, .ref ace, .int (nI M), .int (nI B), .ref ape, .ref aki, .ref abo, .int at_, .int rM, .int rB, .ref arp, .ref ark, .ref arb, .int fb, .int fto, .int (nI R), .ref awh, .ref awn, .ref awm, .ref awk, .ref amo, .ref amu])), (awh, aI G 8 (upd W1 R a0)), (awn, aI G 8 N1), (awm, aI G 8 M1), (awk, aI G 8 K1)] := hD
    refine lv_aload_n hx hb dX5_read_22 rfl (lv_at hl 0 rfl) ?_
    refine g_get (v := .ref awn) hx hb hts ixX5_read_X5 hown hK hP 0 rfl rfl 20 (by decide) lkX5_read_40 rfl dX5_read_23 ?_
    refine lv_aload_n hx hb dX5_read_26 rfl (lv_at hl 0 rfl) ?_
    refine g_get (v := .int (nI R)) hx hb hts ixX5_read_X5 hown hK hP 0 rfl rfl 18 (by decide) lkX5_read_98 rfl dX5_read_27 ?_
    refine lv_iload_n hx hb dX5_read_30 rfl (lv_at hl 2 rfl) ?_
    refine n_ast hx hb hK hP hD hS 2 rfl (k := R) (by omega) (by decide) dX5_read_31 (fun H locs hP hD hS => ?_)
    have hP : va_P G.1 vwCl [(o, .inr (5, [.int ff, .int ftr, .ref aso, .ref asl, .ref ace, .int (nI M), .int (nI B), .ref ape, .ref aki, .ref abo, .int at_, .int rM, .int rB, .ref arp, .ref ark, .ref arb, .int fb, .int fto, .int (nI R), .ref awh, .ref awn, .ref awm, .ref awk, .ref amo, .ref amu])), (awh, aI G 8 (upd W1 R a0)), (awn, aI G 8 (upd N1 R a1)), (awm, aI G 8 M1), (awk, aI G 8 K1)] H := hP
    have hD : va_D A [(o, .inr (5, [.int ff, .int ftr, .ref aso, .ref asl, .ref ace, .int (nI M), .int (nI B), .ref ape, .ref aki, .ref abo, .int at_, .int rM, .int rB, .ref arp, .ref ark, .ref arb, .int fb, .int fto, .int (nI R), .ref awh, .ref awn, .ref awm, .ref awk, .ref amo, .ref amu])), (awh, aI G 8 (upd W1 R a0)), (awn, aI G 8 (upd N1 R a1)), (awm, aI G 8 M1), (awk, aI G 8 K1)] := hD
    refine lv_aload_n hx hb dX5_read_32 rfl (lv_at hl 0 rfl) ?_
    refine g_get (v := .ref awm) hx hb hts ixX5_read_X5 hown hK hP 0 rfl rfl 21 (by decide) lkX5_read_43 rfl dX5_read_33 ?_
    refine lv_aload_n hx hb dX5_read_36 rfl (lv_at hl 0 rfl) ?_
    refine g_get (v := .int (nI R)) hx hb hts ixX5_read_X5 hown hK hP 0 rfl rfl 18 (by decide) lkX5_read_98 rfl dX5_read_37 ?_
    refine lv_iload_n hx hb dX5_read_40 rfl (lv_at hl 3 rfl) ?_
    refine n_ast hx hb hK hP hD hS 3 rfl (k := R) (by omega) (by decide) dX5_read_41 (fun H locs hP hD hS => ?_)
    have hP : va_P G.1 vwCl [(o, .inr (5, [.int ff, .int ftr, .ref aso, .ref asl, .ref ace, .int (nI M), .int (nI B), .ref ape, .ref aki, .ref abo, .int at_, .int rM, .int rB, .ref arp, .ref ark, .ref arb, .int fb, .int fto, .int (nI R), .ref awh, .ref awn, .ref awm, .ref awk, .ref amo, .ref amu])), (awh, aI G 8 (upd W1 R a0)), (awn, aI G 8 (upd N1 R a1)), (awm, aI G 8 (upd M1 R a2)), (awk, aI G 8 K1)] H := hP
    have hD : va_D A [(o, .inr (5, [.int ff, .int ftr, .ref aso, .ref asl, .ref ace, .int (nI M), .int (nI B), .ref ape, .ref aki, .ref abo, .int at_, .int rM, .int rB, .ref arp, .ref ark, .ref arb, .int fb, .int fto, .int (nI R), .ref awh, .ref awn, .ref awm, .ref awk, .ref amo, .ref amu])), (awh, aI G 8 (upd W1 R a0)), (awn, aI G 8 (upd N1 R a1)), (awm, aI G 8 (upd M1 R a2)), (awk, aI G 8 K1)] := hD
    refine lv_aload_n hx hb dX5_read_42 rfl (lv_at hl 0 rfl) ?_
    refine g_get (v := .ref awk) hx hb hts ixX5_read_X5 hown hK hP 0 rfl rfl 22 (by decide) lkX5_read_46 rfl dX5_read_43 ?_
    refine lv_aload_n hx hb dX5_read_46 rfl (lv_at hl 0 rfl) ?_
    refine g_get (v := .int (nI R)) hx hb hts ixX5_read_X5 hown hK hP 0 rfl rfl 18 (by decide) lkX5_read_98 rfl dX5_read_47 ?_
    refine lv_iload hx hb dX5_read_50 (lv_at hl 4 rfl) ?_
    refine n_ast hx hb hK hP hD hS 4 rfl (k := R) (by omega) (by decide) dX5_read_52 (fun H locs hP hD hS => ?_)
    have hP : va_P G.1 vwCl [(o, .inr (5, [.int ff, .int ftr, .ref aso, .ref asl, .ref ace, .int (nI M), .int (nI B), .ref ape, .ref aki, .ref abo, .int at_, .int rM, .int rB, .ref arp, .ref ark, .ref arb, .int fb, .int fto, .int (nI R), .ref awh, .ref awn, .ref awm, .ref awk, .ref amo, .ref amu])), (awh, aI G 8 (upd W1 R a0)), (awn, aI G 8 (upd N1 R a1)), (awm, aI G 8 (upd M1 R a2)), (awk, aI G 8 (upd K1 R a3))] H := hP
    have hD : va_D A [(o, .inr (5, [.int ff, .int ftr, .ref aso, .ref asl, .ref ace, .int (nI M), .int (nI B), .ref ape, .ref aki, .ref abo, .int at_, .int rM, .int rB, .ref arp, .ref ark, .ref arb, .int fb, .int fto, .int (nI R), .ref awh, .ref awn, .ref awm, .ref awk, .ref amo, .ref amu])), (awh, aI G 8 (upd W1 R a0)), (awn, aI G 8 (upd N1 R a1)), (awm, aI G 8 (upd M1 R a2)), (awk, aI G 8 (upd K1 R a3))] := hD
    refine lv_aload_n hx hb dX5_read_53 rfl (lv_at hl 0 rfl) ?_
    refine lv_dup hx hb dX5_read_54 rfl ?_
    refine g_get (v := .int (nI R)) hx hb hts ixX5_read_X5 hown hK hP 0 rfl rfl 18 (by decide) lkX5_read_98 rfl dX5_read_55 ?_
    refine lv_iconst (v := nI 1) hx hb dX5_read_58 (by decide) ?_
    refine lv_iadd hx hb dX5_read_59 ?_
    refine lv_tope (show (nI R) + (nI 1) = nI (R + 1) from nI_add _ _) ?_
    refine g_put (v := (nI (R + 1))) hx hb hts ixX5_read_X5 tyX5 tyX5_ok nmX5 hown hK hP hD hS 0 rfl rfl 18 (by decide) lkX5_read_98 rfl rfl (Nat.le_of_ble_eq_true rfl) dX5_read_60 (fun H locs hP hD hS => ?_)
    have hP : va_P G.1 vwCl [(o, .inr (5, [.int ff, .int ftr, .ref aso, .ref asl, .ref ace, .int (nI M), .int (nI B), .ref ape, .ref aki, .ref abo, .int at_, .int rM, .int rB, .ref arp, .ref ark, .ref arb, .int fb, .int fto, .int (nI (R + 1)), .ref awh, .ref awn, .ref awm, .ref awk, .ref amo, .ref amu])), (awh, aI G 8 (upd W1 R a0)), (awn, aI G 8 (upd N1 R a1)), (awm, aI G 8 (upd M1 R a2)), (awk, aI G 8 (upd K1 R a3))] H := hP
    have hD : va_D A [(o, .inr (5, [.int ff, .int ftr, .ref aso, .ref asl, .ref ace, .int (nI M), .int (nI B), .ref ape, .ref aki, .ref abo, .int at_, .int rM, .int rB, .ref arp, .ref ark, .ref arb, .int fb, .int fto, .int (nI (R + 1)), .ref awh, .ref awn, .ref awm, .ref awk, .ref amo, .ref amu])), (awh, aI G 8 (upd W1 R a0)), (awn, aI G 8 (upd N1 R a1)), (awm, aI G 8 (upd M1 R a2)), (awk, aI G 8 (upd K1 R a3))] := hD
    refine lv_aload_n hx hb dX5_read_63 rfl (lv_at hl 0 rfl) ?_
    refine g_get (v := .int (nI (R + 1))) hx hb hts ixX5_read_X5 hown hK hP 0 rfl rfl 18 (by decide) lkX5_read_98 rfl dX5_read_64 ?_
    refine lv_iconst (v := nI 1) hx hb dX5_read_67 (by decide) ?_
    refine lv_isub hx hb dX5_read_68 ?_
    refine lv_tope (show (nI (R + 1)) - (nI 1) = nI ((R + 1) - 1) from pk_sub (by omega)) ?_
    exact hret _ _ _ _ _ (by simp only [s_noted, iF_t h8, Nat.add_sub_cancel]) (by first | with_reducible exact hP | (simp only [s_noted, iF_t h8]; with_reducible exact hP) | contradiction | (simp only [s_noted, iF_t h8]; exact hP) | exact hP) hS dX5_read_69
  ·
    have h8 : ¬ R < 8 := by omega
    refine lv_bipush (v := (-4)) hx hb dX5_read_9 (by decide) ?_
    exact hret _ _ _ _ _ (by first | with_reducible rfl | (simp only [s_noted, iF_f h8]; done) | contradiction) (by first | with_reducible exact hP | (simp only [s_noted, iF_f h8]; with_reducible exact hP) | contradiction | (simp only [s_noted, iF_f h8]; exact hP) | exact hP) hS dX5_read_11

set_option maxHeartbeats 4000000 in
set_option maxRecDepth 100000 in
theorem kX5_reading (l : Launch) (G : Gl) (o : Nat) (ff : Int32) (ftr : Int32) (aso : Nat) (asl : Nat) (ace : Nat) (M : Nat) (B : Nat) (ape : Nat) (aki : Nat) (abo : Nat) (at_ : Int32) (rM : Int32) (rB : Int32) (arp : Nat) (ark : Nat) (arb : Nat) (fb : Int32) (fto : Int32) (R : Nat) (awh : Nat) (awn : Nat) (awm : Nat) (awk : Nat) (amo : Nat) (amu : Nat) (W1 : Nat → Int32) (N1 : Nat → Int32) (M1 : Nat → Int32) (K1 : Nat → Int32) (b : Int32) (n : Int32) (m0 : Int32) (hM : M ≤ 5) (hB : B ≤ 4) (hR : R ≤ 8) : Wt l G yX5_reading wsX5_reading ({ frames := 1, cells := 0, slots := 0, locals := 24 } : Room) [.ref o, .int b, .int n, .int m0] [(o, .inr (5, [.int ff, .int ftr, .ref aso, .ref asl, .ref ace, .int (nI M), .int (nI B), .ref ape, .ref aki, .ref abo, .int at_, .int rM, .int rB, .ref arp, .ref ark, .ref arb, .int fb, .int fto, .int (nI R), .ref awh, .ref awn, .ref awm, .ref awk, .ref amo, .ref amu])), (awh, aI G 8 W1), (awn, aI G 8 N1), (awm, aI G 8 M1), (awk, aI G 8 K1)] [(o, .inr (5, [.int ff, .int ftr, .ref aso, .ref asl, .ref ace, .int (nI M), .int (nI B), .ref ape, .ref aki, .ref abo, .int at_, .int rM, .int rB, .ref arp, .ref ark, .ref arb, .int fb, .int fto, .int (nI (rdG B M R b n m0 (R + 1) R)), .ref awh, .ref awn, .ref awm, .ref awk, .ref amo, .ref amu])), (awh, aI G 8 (rdG B M R b n m0 (upd W1 R b) W1)), (awn, aI G 8 (rdG B M R b n m0 (upd N1 R n) N1)), (awm, aI G 8 (rdG B M R b n m0 (upd M1 R m0) M1)), (awk, aI G 8 (rdG B M R b n m0 (upd K1 R (-9)) K1))] (some (.int (s_read B M R b n m0))) := by
  refine Wt.ofI (cc := cX5_reading) (maxL := 4) (by decide) rfl (Nat.le_of_ble_eq_true rfl) ?_
  intro p e s m below meth c Q A ls hE hP hK hD hS hl hret
  obtain ⟨hx, hb, hml, hown, hts⟩ := id hE
  have hl : lv_has ls 4 [(0, .ref o), (1, .int b), (2, .int n), (3, .int m0)] := hl
  refine lv_aload_n hx hb dX5_reading_0 rfl (lv_at hl 0 rfl) ?_
  refine lv_iload_n hx hb dX5_reading_1 rfl (lv_at hl 1 rfl) ?_
  refine rdV (As := [.int b]) (rest := []) (ci := 5) (q0 := 0) hE (kX5_isBoy l G o ff ftr aso asl ace M B ape aki abo at_ rM rB arp ark arb fb fto R awh awn awm awk amo amu b hB) (cwV 1 hts gX5_reading_X5_isBoy rfl rfl rfl (by decide +kernel) ⟨Nat.le_of_ble_eq_true rfl, Nat.le_of_ble_eq_true rfl⟩) hP hK [0] rfl rfl rfl rfl hl.1 rfl (Nat.le_of_ble_eq_true rfl) dX5_reading_2 ⟨Nat.zero_le _, Nat.zero_le _⟩ ?_
  refine W.eq (g2 := F0 m 5 ls [.int (bI (vp_in b B))]) rfl ?_
  refine bz_eq (tgt := 16) hx hb dX5_reading_5 (by decide) (fun c1 => ?_) (fun c1 => ?_)
  ·
    refine lv_iconst (v := (-1)) hx hb dX5_reading_16 (by decide) ?_
    exact hret _ _ _ _ _ (by first | with_reducible rfl | (simp only [s_read, rdG, iF_f c1]; done) | contradiction) (by first | with_reducible exact hP | (simp only [s_read, rdG, iF_f c1]; with_reducible exact hP) | contradiction | (simp only [s_read, rdG, iF_f c1]; exact hP) | exact hP) hS dX5_reading_17
  ·
    refine lv_aload_n hx hb dX5_reading_8 rfl (lv_at hl 0 rfl) ?_
    refine lv_iload_n hx hb dX5_reading_9 rfl (lv_at hl 3 rfl) ?_
    refine rdV (As := [.int m0]) (rest := []) (ci := 5) (q0 := 0) hE (kX5_isMaster l G o ff ftr aso asl ace M B ape aki abo at_ rM rB arp ark arb fb fto R awh awn awm awk amo amu m0 hM) (cwV 1 hts gX5_reading_X5_isMaster rfl rfl rfl (by decide +kernel) ⟨Nat.le_of_ble_eq_true rfl, Nat.le_of_ble_eq_true rfl⟩) hP hK [0] rfl rfl rfl rfl hl.1 rfl (Nat.le_of_ble_eq_true rfl) dX5_reading_10 ⟨Nat.zero_le _, Nat.zero_le _⟩ ?_
    refine W.eq (g2 := F0 m 13 ls [.int (bI (vp_in m0 M))]) rfl ?_
    refine bz_ne (tgt := 18) hx hb dX5_reading_13 (by decide) (fun c2 => ?_) (fun c2 => ?_)
    ·
      refine lv_iload_n hx hb dX5_reading_18 rfl (lv_at hl 2 rfl) ?_
      refine lv_iconst (v := nI 0) hx hb dX5_reading_19 (by decide) ?_
      refine lv_bipush (v := nI 20) hx hb dX5_reading_20 (by decide) ?_
      refine rdS (As := [.int n, .int (nI 0), .int (nI 20)]) (rest := []) hE (kX5_within0 l G n 20 (by first | omega | assumption)) (va_cwS 3 hts gX5_reading_X5_within rfl rfl rfl (by decide +kernel) ⟨Nat.le_of_ble_eq_true rfl, Nat.le_of_ble_eq_true rfl⟩) hP hK [] rfl rfl hl.1 rfl (Nat.le_of_ble_eq_true rfl) dX5_reading_22 ⟨Nat.zero_le _, Nat.zero_le _⟩ ?_
      refine W.eq (g2 := F0 m 25 ls [.int (bI (vp_in n (20 + 1)))]) rfl ?_
      refine bz_eq (tgt := 40) hx hb dX5_reading_25 (by decide) (fun c3 => ?_) (fun c3 => ?_)
      ·
        refine lv_bipush (v := (-2)) hx hb dX5_reading_40 (by decide) ?_
        exact hret _ _ _ _ _ (by first | with_reducible rfl | (simp only [s_read, rdG, iF_t c1, iF_t c2, iF_f c3]; done) | contradiction) (by first | with_reducible exact hP | (simp only [s_read, rdG, iF_t c1, iF_t c2, iF_f c3]; with_reducible exact hP) | contradiction | (simp only [s_read, rdG, iF_t c1, iF_t c2, iF_f c3]; exact hP) | exact hP) hS dX5_reading_42
      ·
        refine lv_aload_n hx hb dX5_reading_28 rfl (lv_at hl 0 rfl) ?_
        refine lv_iload_n hx hb dX5_reading_29 rfl (lv_at hl 1 rfl) ?_
        refine lv_iload_n hx hb dX5_reading_30 rfl (lv_at hl 2 rfl) ?_
        refine lv_iload_n hx hb dX5_reading_31 rfl (lv_at hl 3 rfl) ?_
        refine lv_bipush (v := (-9)) hx hb dX5_reading_32 (by decide) ?_
        refine wtV (As := [.int b, .int n, .int m0, .int (-9)]) (rest := []) (ci := 5) (q0 := 0) hE (kX5_read l G o ff ftr aso asl ace M B ape aki abo at_ rM rB arp ark arb fb fto R awh awn awm awk amo amu W1 N1 M1 K1 b n m0 (-9) hR) (cwV 4 hts gX5_reading_X5_read rfl rfl rfl (by decide +kernel) ⟨Nat.le_of_ble_eq_true rfl, Nat.le_of_ble_eq_true rfl⟩) hP hK hD hS [0, 1, 2, 3, 4] (by decide) rfl (Eq.trans (b := [o, awh, awn, awm, awk]) rfl rfl) (W1 := [(o, .inr (5, [.int ff, .int ftr, .ref aso, .ref asl, .ref ace, .int (nI M), .int (nI B), .ref ape, .ref aki, .ref abo, .int at_, .int rM, .int rB, .ref arp, .ref ark, .ref arb, .int fb, .int fto, .int (nI (iF (R < 8) (R + 1) R)), .ref awh, .ref awn, .ref awm, .ref awk, .ref amo, .ref amu])), (awh, aI G 8 (iF (R < 8) (upd W1 R b) W1)), (awn, aI G 8 (iF (R < 8) (upd N1 R n) N1)), (awm, aI G 8 (iF (R < 8) (upd M1 R m0) M1)), (awk, aI G 8 (iF (R < 8) (upd K1 R (-9)) K1))]) rfl rfl rfl rfl hl.1 rfl (Nat.le_of_ble_eq_true rfl) dX5_reading_34 ⟨Nat.zero_le _, Nat.zero_le _⟩ (fun H locs hP hD hS => ?_)
        refine W.eq (g2 := F0 m 37 ls [.int (s_noted R)]) rfl ?_
        refine lv_goto (tgt := 42) hx hb dX5_reading_37 (by decide) ?_
        exact hret _ _ _ _ _ (by first | with_reducible rfl | (simp only [s_read, rdG, iF_t c1, iF_t c2, iF_t c3]; done) | contradiction) (by first | with_reducible exact hP | (simp only [s_read, rdG, iF_t c1, iF_t c2, iF_t c3]; with_reducible exact hP) | contradiction | (simp only [s_read, rdG, iF_t c1, iF_t c2, iF_t c3]; exact hP) | exact hP) hS dX5_reading_42
    ·
      refine lv_iconst (v := (-1)) hx hb dX5_reading_16 (by decide) ?_
      exact hret _ _ _ _ _ (by first | with_reducible rfl | (simp only [s_read, rdG, iF_t c1, iF_f c2]; done) | contradiction) (by first | with_reducible exact hP | (simp only [s_read, rdG, iF_t c1, iF_f c2]; with_reducible exact hP) | contradiction | (simp only [s_read, rdG, iF_t c1, iF_f c2]; exact hP) | exact hP) hS dX5_reading_17

set_option maxHeartbeats 4000000 in
set_option maxRecDepth 100000 in
theorem kX5_exam (l : Launch) (G : Gl) (o : Nat) (ff : Int32) (ftr : Int32) (aso : Nat) (asl : Nat) (ace : Nat) (M : Nat) (B : Nat) (ape : Nat) (aki : Nat) (abo : Nat) (at_ : Int32) (rM : Int32) (rB : Int32) (arp : Nat) (ark : Nat) (arb : Nat) (fb : Int32) (fto : Int32) (R : Nat) (awh : Nat) (awn : Nat) (awm : Nat) (awk : Nat) (amo : Nat) (amu : Nat) (W1 : Nat → Int32) (N1 : Nat → Int32) (M1 : Nat → Int32) (K1 : Nat → Int32) (b : Int32) (n : Int32) (m0 : Int32) (v : Int32) (hM : M ≤ 5) (hB : B ≤ 4) (hR : R ≤ 8) : Wt l G yX5_exam wsX5_exam ({ frames := 1, cells := 0, slots := 0, locals := 24 } : Room) [.ref o, .int b, .int n, .int m0, .int v] [(o, .inr (5, [.int ff, .int ftr, .ref aso, .ref asl, .ref ace, .int (nI M), .int (nI B), .ref ape, .ref aki, .ref abo, .int at_, .int rM, .int rB, .ref arp, .ref ark, .ref arb, .int fb, .int fto, .int (nI R), .ref awh, .ref awn, .ref awm, .ref awk, .ref amo, .ref amu])), (awh, aI G 8 W1), (awn, aI G 8 N1), (awm, aI G 8 M1), (awk, aI G 8 K1)] [(o, .inr (5, [.int ff, .int ftr, .ref aso, .ref asl, .ref ace, .int (nI M), .int (nI B), .ref ape, .ref aki, .ref abo, .int at_, .int rM, .int rB, .ref arp, .ref ark, .ref arb, .int fb, .int fto, .int (nI (exG B M R b n m0 v (R + 1) R)), .ref awh, .ref awn, .ref awm, .ref awk, .ref amo, .ref amu])), (awh, aI G 8 (exG B M R b n m0 v (upd W1 R b) W1)), (awn, aI G 8 (exG B M R b n m0 v (upd N1 R n) N1)), (awm, aI G 8 (exG B M R b n m0 v (upd M1 R m0) M1)), (awk, aI G 8 (exG B M R b n m0 v (upd K1 R v) K1))] (some (.int (s_exam B M R b n m0 v))) := by
  refine Wt.ofI (cc := cX5_exam) (maxL := 5) (by decide) rfl (Nat.le_of_ble_eq_true rfl) ?_
  intro p e s m below meth c Q A ls hE hP hK hD hS hl hret
  obtain ⟨hx, hb, hml, hown, hts⟩ := id hE
  have hl : lv_has ls 5 [(0, .ref o), (1, .int b), (2, .int n), (3, .int m0), (4, .int v)] := hl
  refine lv_aload_n hx hb dX5_exam_0 rfl (lv_at hl 0 rfl) ?_
  refine lv_iload_n hx hb dX5_exam_1 rfl (lv_at hl 1 rfl) ?_
  refine rdV (As := [.int b]) (rest := []) (ci := 5) (q0 := 0) hE (kX5_isBoy l G o ff ftr aso asl ace M B ape aki abo at_ rM rB arp ark arb fb fto R awh awn awm awk amo amu b hB) (cwV 1 hts gX5_exam_X5_isBoy rfl rfl rfl (by decide +kernel) ⟨Nat.le_of_ble_eq_true rfl, Nat.le_of_ble_eq_true rfl⟩) hP hK [0] rfl rfl rfl rfl hl.1 rfl (Nat.le_of_ble_eq_true rfl) dX5_exam_2 ⟨Nat.zero_le _, Nat.zero_le _⟩ ?_
  refine W.eq (g2 := F0 m 5 ls [.int (bI (vp_in b B))]) rfl ?_
  refine bz_eq (tgt := 16) hx hb dX5_exam_5 (by decide) (fun c1 => ?_) (fun c1 => ?_)
  ·
    refine lv_iconst (v := (-1)) hx hb dX5_exam_16 (by decide) ?_
    exact hret _ _ _ _ _ (by first | with_reducible rfl | (simp only [s_exam, exG, iF_f c1]; done) | contradiction) (by first | with_reducible exact hP | (simp only [s_exam, exG, iF_f c1]; with_reducible exact hP) | contradiction | (simp only [s_exam, exG, iF_f c1]; exact hP) | exact hP) hS dX5_exam_17
  ·
    refine lv_aload_n hx hb dX5_exam_8 rfl (lv_at hl 0 rfl) ?_
    refine lv_iload_n hx hb dX5_exam_9 rfl (lv_at hl 3 rfl) ?_
    refine rdV (As := [.int m0]) (rest := []) (ci := 5) (q0 := 0) hE (kX5_isMaster l G o ff ftr aso asl ace M B ape aki abo at_ rM rB arp ark arb fb fto R awh awn awm awk amo amu m0 hM) (cwV 1 hts gX5_exam_X5_isMaster rfl rfl rfl (by decide +kernel) ⟨Nat.le_of_ble_eq_true rfl, Nat.le_of_ble_eq_true rfl⟩) hP hK [0] rfl rfl rfl rfl hl.1 rfl (Nat.le_of_ble_eq_true rfl) dX5_exam_10 ⟨Nat.zero_le _, Nat.zero_le _⟩ ?_
    refine W.eq (g2 := F0 m 13 ls [.int (bI (vp_in m0 M))]) rfl ?_
    refine bz_ne (tgt := 18) hx hb dX5_exam_13 (by decide) (fun c2 => ?_) (fun c2 => ?_)
    ·
      refine lv_iload_n hx hb dX5_exam_18 rfl (lv_at hl 2 rfl) ?_
      refine lv_iconst (v := nI 0) hx hb dX5_exam_19 (by decide) ?_
      refine lv_bipush (v := nI 20) hx hb dX5_exam_20 (by decide) ?_
      refine rdS (As := [.int n, .int (nI 0), .int (nI 20)]) (rest := []) hE (kX5_within0 l G n 20 (by first | omega | assumption)) (va_cwS 3 hts gX5_exam_X5_within rfl rfl rfl (by decide +kernel) ⟨Nat.le_of_ble_eq_true rfl, Nat.le_of_ble_eq_true rfl⟩) hP hK [] rfl rfl hl.1 rfl (Nat.le_of_ble_eq_true rfl) dX5_exam_22 ⟨Nat.zero_le _, Nat.zero_le _⟩ ?_
      refine W.eq (g2 := F0 m 25 ls [.int (bI (vp_in n (20 + 1)))]) rfl ?_
      refine bz_eq (tgt := 51) hx hb dX5_exam_25 (by decide) (fun c3 => ?_) (fun c3 => ?_)
      ·
        refine lv_bipush (v := (-2)) hx hb dX5_exam_51 (by decide) ?_
        exact hret _ _ _ _ _ (by first | with_reducible rfl | (simp only [s_exam, exG, iF_t c1, iF_t c2, iF_f c3]; done) | contradiction) (by first | with_reducible exact hP | (simp only [s_exam, exG, iF_t c1, iF_t c2, iF_f c3]; with_reducible exact hP) | contradiction | (simp only [s_exam, exG, iF_t c1, iF_t c2, iF_f c3]; exact hP) | exact hP) hS dX5_exam_53
      ·
        refine lv_iload hx hb dX5_exam_28 (lv_at hl 4 rfl) ?_
        refine lv_iconst (v := nI 0) hx hb dX5_exam_30 (by decide) ?_
        refine lv_bipush (v := nI 40) hx hb dX5_exam_31 (by decide) ?_
        refine rdS (As := [.int v, .int (nI 0), .int (nI 40)]) (rest := []) hE (kX5_within0 l G v 40 (by first | omega | assumption)) (va_cwS 3 hts gX5_exam_X5_within rfl rfl rfl (by decide +kernel) ⟨Nat.le_of_ble_eq_true rfl, Nat.le_of_ble_eq_true rfl⟩) hP hK [] rfl rfl hl.1 rfl (Nat.le_of_ble_eq_true rfl) dX5_exam_33 ⟨Nat.zero_le _, Nat.zero_le _⟩ ?_
        refine W.eq (g2 := F0 m 36 ls [.int (bI (vp_in v (40 + 1)))]) rfl ?_
        refine bz_eq (tgt := 51) hx hb dX5_exam_36 (by decide) (fun c4 => ?_) (fun c4 => ?_)
        ·
          refine lv_bipush (v := (-2)) hx hb dX5_exam_51 (by decide) ?_
          exact hret _ _ _ _ _ (by first | with_reducible rfl | (simp only [s_exam, exG, iF_t c1, iF_t c2, iF_t c3, iF_f c4]; done) | contradiction) (by first | with_reducible exact hP | (simp only [s_exam, exG, iF_t c1, iF_t c2, iF_t c3, iF_f c4]; with_reducible exact hP) | contradiction | (simp only [s_exam, exG, iF_t c1, iF_t c2, iF_t c3, iF_f c4]; exact hP) | exact hP) hS dX5_exam_53
        ·
          refine lv_aload_n hx hb dX5_exam_39 rfl (lv_at hl 0 rfl) ?_
          refine lv_iload_n hx hb dX5_exam_40 rfl (lv_at hl 1 rfl) ?_
          refine lv_iload_n hx hb dX5_exam_41 rfl (lv_at hl 2 rfl) ?_
          refine lv_iload_n hx hb dX5_exam_42 rfl (lv_at hl 3 rfl) ?_
          refine lv_iload hx hb dX5_exam_43 (lv_at hl 4 rfl) ?_
          refine wtV (As := [.int b, .int n, .int m0, .int v]) (rest := []) (ci := 5) (q0 := 0) hE (kX5_read l G o ff ftr aso asl ace M B ape aki abo at_ rM rB arp ark arb fb fto R awh awn awm awk amo amu W1 N1 M1 K1 b n m0 v hR) (cwV 4 hts gX5_exam_X5_read rfl rfl rfl (by decide +kernel) ⟨Nat.le_of_ble_eq_true rfl, Nat.le_of_ble_eq_true rfl⟩) hP hK hD hS [0, 1, 2, 3, 4] (by decide) rfl (Eq.trans (b := [o, awh, awn, awm, awk]) rfl rfl) (W1 := [(o, .inr (5, [.int ff, .int ftr, .ref aso, .ref asl, .ref ace, .int (nI M), .int (nI B), .ref ape, .ref aki, .ref abo, .int at_, .int rM, .int rB, .ref arp, .ref ark, .ref arb, .int fb, .int fto, .int (nI (iF (R < 8) (R + 1) R)), .ref awh, .ref awn, .ref awm, .ref awk, .ref amo, .ref amu])), (awh, aI G 8 (iF (R < 8) (upd W1 R b) W1)), (awn, aI G 8 (iF (R < 8) (upd N1 R n) N1)), (awm, aI G 8 (iF (R < 8) (upd M1 R m0) M1)), (awk, aI G 8 (iF (R < 8) (upd K1 R v) K1))]) rfl rfl rfl rfl hl.1 rfl (Nat.le_of_ble_eq_true rfl) dX5_exam_45 ⟨Nat.zero_le _, Nat.zero_le _⟩ (fun H locs hP hD hS => ?_)
          refine W.eq (g2 := F0 m 48 ls [.int (s_noted R)]) rfl ?_
          refine lv_goto (tgt := 53) hx hb dX5_exam_48 (by decide) ?_
          exact hret _ _ _ _ _ (by first | with_reducible rfl | (simp only [s_exam, exG, iF_t c1, iF_t c2, iF_t c3, iF_t c4]; done) | contradiction) (by first | with_reducible exact hP | (simp only [s_exam, exG, iF_t c1, iF_t c2, iF_t c3, iF_t c4]; with_reducible exact hP) | contradiction | (simp only [s_exam, exG, iF_t c1, iF_t c2, iF_t c3, iF_t c4]; exact hP) | exact hP) hS dX5_exam_53
    ·
      refine lv_iconst (v := (-1)) hx hb dX5_exam_16 (by decide) ?_
      exact hret _ _ _ _ _ (by first | with_reducible rfl | (simp only [s_exam, exG, iF_t c1, iF_f c2]; done) | contradiction) (by first | with_reducible exact hP | (simp only [s_exam, exG, iF_t c1, iF_f c2]; with_reducible exact hP) | contradiction | (simp only [s_exam, exG, iF_t c1, iF_f c2]; exact hP) | exact hP) hS dX5_exam_17

theorem ixX5_back_X5 : ∀ w ∈ wsX50, w ∈ wsX5_back := fun _ h => List.mem_cons_of_mem _ (List.mem_append_right _ h)
theorem lkX5_back_98 : Cond.fieldLink RX5 98 (TX5 18).1 (TX5 18).2.1 (TX5 18).2.2.1 ∈ wsX5_back := List.mem_of_getElem? (i := 1) rfl
set_option maxHeartbeats 4000000 in
set_option maxRecDepth 100000 in
theorem kX5_back (l : Launch) (G : Gl) (o : Nat) (ff : Int32) (ftr : Int32) (aso : Nat) (asl : Nat) (ace : Nat) (M : Nat) (B : Nat) (ape : Nat) (aki : Nat) (abo : Nat) (at_ : Int32) (rM : Int32) (rB : Int32) (arp : Nat) (ark : Nat) (arb : Nat) (fb : Int32) (fto : Int32) (R : Nat) (awh : Nat) (awn : Nat) (awm : Nat) (awk : Nat) (amo : Nat) (amu : Nat) (k : Int32) (hR : R ≤ 8) : Wt l G yX5_back wsX5_back ({ frames := 1, cells := 0, slots := 0, locals := 22 } : Room) [.ref o, .int k] [(o, .inr (5, [.int ff, .int ftr, .ref aso, .ref asl, .ref ace, .int (nI M), .int (nI B), .ref ape, .ref aki, .ref abo, .int at_, .int rM, .int rB, .ref arp, .ref ark, .ref arb, .int fb, .int fto, .int (nI R), .ref awh, .ref awn, .ref awm, .ref awk, .ref amo, .ref amu]))] [(o, .inr (5, [.int ff, .int ftr, .ref aso, .ref asl, .ref ace, .int (nI M), .int (nI B), .ref ape, .ref aki, .ref abo, .int at_, .int rM, .int rB, .ref arp, .ref ark, .ref arb, .int fb, .int fto, .int (nI (r_back R k)), .ref awh, .ref awn, .ref awm, .ref awk, .ref amo, .ref amu]))] (some (.int (s_back R k))) := by
  refine Wt.ofI (cc := cX5_back) (maxL := 2) (by decide) rfl (Nat.le_of_ble_eq_true rfl) ?_
  intro p e s m below meth c Q A ls hE hP hK hD hS hl hret
  obtain ⟨hx, hb, hml, hown, hts⟩ := id hE
  have hl : lv_has ls 2 [(0, .ref o), (1, .int k)] := hl
  refine lv_iload_n hx hb dX5_back_0 rfl (lv_at hl 1 rfl) ?_
  refine lv_iconst (v := nI 0) hx hb dX5_back_1 (by decide) ?_
  refine lv_aload_n hx hb dX5_back_2 rfl (lv_at hl 0 rfl) ?_
  refine g_get (v := .int (nI R)) hx hb hts ixX5_back_X5 hown hK hP 0 rfl rfl 18 (by decide) lkX5_back_98 rfl dX5_back_3 ?_
  refine rdS (As := [.int k, .int (nI 0), .int (nI R)]) (rest := []) hE (kX5_within0 l G k R (by first | omega | assumption)) (va_cwS 3 hts gX5_back_X5_within rfl rfl rfl (by decide +kernel) ⟨Nat.le_of_ble_eq_true rfl, Nat.le_of_ble_eq_true rfl⟩) hP hK [] rfl rfl hl.1 rfl (Nat.le_of_ble_eq_true rfl) dX5_back_6 ⟨Nat.zero_le _, Nat.zero_le _⟩ ?_
  refine W.eq (g2 := F0 m 9 ls [.int (bI (vp_in k (R + 1)))]) rfl ?_
  refine bz_ne (tgt := 15) hx hb dX5_back_9 (by decide) (fun c1 => ?_) (fun c1 => ?_)
  ·
    obtain ⟨jk, hjk, rfl⟩ := vp_in_of c1 (by omega)
    refine lv_aload_n hx hb dX5_back_15 rfl (lv_at hl 0 rfl) ?_
    refine lv_dup hx hb dX5_back_16 rfl ?_
    refine g_get (v := .int (nI R)) hx hb hts ixX5_back_X5 hown hK hP 0 rfl rfl 18 (by decide) lkX5_back_98 rfl dX5_back_17 ?_
    refine lv_iload_n hx hb dX5_back_20 rfl (lv_at hl 1 rfl) ?_
    refine lv_isub hx hb dX5_back_21 ?_
    refine lv_tope (show (nI R) - (nI jk) = nI (R - jk) from pk_sub (by omega)) ?_
    refine g_put (v := (nI (R - jk))) hx hb hts ixX5_back_X5 tyX5 tyX5_ok nmX5 hown hK hP hD hS 0 rfl rfl 18 (by decide) lkX5_back_98 rfl rfl (Nat.le_of_ble_eq_true rfl) dX5_back_22 (fun H locs hP hD hS => ?_)
    have hP : va_P G.1 vwCl [(o, .inr (5, [.int ff, .int ftr, .ref aso, .ref asl, .ref ace, .int (nI M), .int (nI B), .ref ape, .ref aki, .ref abo, .int at_, .int rM, .int rB, .ref arp, .ref ark, .ref arb, .int fb, .int fto, .int (nI (R - jk)), .ref awh, .ref awn, .ref awm, .ref awk, .ref amo, .ref amu]))] H := hP
    have hD : va_D A [(o, .inr (5, [.int ff, .int ftr, .ref aso, .ref asl, .ref ace, .int (nI M), .int (nI B), .ref ape, .ref aki, .ref abo, .int at_, .int rM, .int rB, .ref arp, .ref ark, .ref arb, .int fb, .int fto, .int (nI (R - jk)), .ref awh, .ref awn, .ref awm, .ref awk, .ref amo, .ref amu]))] := hD
    refine lv_aload_n hx hb dX5_back_25 rfl (lv_at hl 0 rfl) ?_
    refine g_get (v := .int (nI (R - jk))) hx hb hts ixX5_back_X5 hown hK hP 0 rfl rfl 18 (by decide) lkX5_back_98 rfl dX5_back_26 ?_
    exact hret _ _ _ _ _ (by first | with_reducible rfl | (simp only [s_back, r_back, iF_t c1, tn_nI (show jk < 2 ^ 31 by omega)]; done) | contradiction) (by first | with_reducible exact hP | (simp only [s_back, r_back, iF_t c1, tn_nI (show jk < 2 ^ 31 by omega)]; with_reducible exact hP) | contradiction | (simp only [s_back, r_back, iF_t c1, tn_nI (show jk < 2 ^ 31 by omega)]; exact hP) | exact hP) hS dX5_back_29
  ·
    refine lv_bipush (v := (-2)) hx hb dX5_back_12 (by decide) ?_
    exact hret _ _ _ _ _ (by first | with_reducible rfl | (simp only [s_back, r_back, iF_f c1]; done) | contradiction) (by first | with_reducible exact hP | (simp only [s_back, r_back, iF_f c1]; with_reducible exact hP) | contradiction | (simp only [s_back, r_back, iF_f c1]; exact hP) | exact hP) hS dX5_back_14

theorem ixX5_isSo_X5 : ∀ w ∈ wsX50, w ∈ wsX5_isSo := fun _ h => List.mem_cons_of_mem _ (List.mem_append_right _ h)
theorem lkX5_isSo_43 : Cond.fieldLink RX5 43 (TX5 21).1 (TX5 21).2.1 (TX5 21).2.2.1 ∈ wsX5_isSo := List.mem_of_getElem? (i := 1) rfl
theorem lkX5_isSo_46 : Cond.fieldLink RX5 46 (TX5 22).1 (TX5 22).2.1 (TX5 22).2.2.1 ∈ wsX5_isSo := List.mem_of_getElem? (i := 2) rfl
theorem lkX5_isSo_37 : Cond.fieldLink RX5 37 (TX5 19).1 (TX5 19).2.1 (TX5 19).2.2.1 ∈ wsX5_isSo := List.mem_of_getElem? (i := 3) rfl
theorem lkX5_isSo_40 : Cond.fieldLink RX5 40 (TX5 20).1 (TX5 20).2.1 (TX5 20).2.2.1 ∈ wsX5_isSo := List.mem_of_getElem? (i := 4) rfl
set_option maxHeartbeats 4000000 in
set_option maxRecDepth 100000 in
theorem kX5_isSo (l : Launch) (G : Gl) (o : Nat) (ff : Int32) (ftr : Int32) (aso : Nat) (asl : Nat) (ace : Nat) (M : Nat) (B : Nat) (ape : Nat) (aki : Nat) (abo : Nat) (at_ : Int32) (rM : Int32) (rB : Int32) (arp : Nat) (ark : Nat) (arb : Nat) (fb : Int32) (fto : Int32) (R : Nat) (awh : Nat) (awn : Nat) (awm : Nat) (awk : Nat) (amo : Nat) (amu : Nat) (P : Nat → Int32) (K : Nat → Int32) (U : Nat → Int32) (W1 : Nat → Int32) (N1 : Nat → Int32) (M1 : Nat → Int32) (K1 : Nat → Int32) (q : Nat) (hM : M ≤ 5) (hB : B ≤ 4) (hq : q < 8) (hwv : vp_in (W1 q) B) (htv : vp_in (N1 q) (20 + 1)) (hgv : vp_in (M1 q) M) (hu : vp_in (U (tn (W1 q))) M) (hk : kd (K (tn (W1 q)))) : Rd l G yX5_isSo wsX5_isSo ({ frames := 3, cells := 0, slots := 0, locals := 70 } : Room) [.ref o, .int (nI q)] [(o, .inr (5, [.int ff, .int ftr, .ref aso, .ref asl, .ref ace, .int (nI M), .int (nI B), .ref ape, .ref aki, .ref abo, .int at_, .int rM, .int rB, .ref arp, .ref ark, .ref arb, .int fb, .int fto, .int (nI R), .ref awh, .ref awn, .ref awm, .ref awk, .ref amo, .ref amu])), (ape, aI G 25 P), (aki, aI G 4 K), (abo, aI G 4 U), (awh, aI G 8 W1), (awn, aI G 8 N1), (awm, aI G 8 M1), (awk, aI G 8 K1)] (some (.int (bI (isS (-9) P M K U (tn (W1 q)) (tn (N1 q)) (tn (M1 q)) (K1 q))))) := by
  refine Rd.ofZ (cc := cX5_isSo) (maxL := 3) (by decide) rfl (Nat.le_of_ble_eq_true rfl) ?_
  intro p e s m below meth c Q ls hE hP hK hl hret
  obtain ⟨hx, hb, hml, hown, hts⟩ := id hE
  have hl : lv_has ls 3 [(0, .ref o), (1, .int (nI q))] := hl
  have hw1 := tn_lt hwv (by omega)
  have ht1 := tn_lt htv (by omega)
  have hg1 := tn_lt hgv (by omega)
  have hwl := wh_lt (P := P) (tn_lt hu (by omega)) (tn (N1 q))
  refine lv_aload_n hx hb dX5_isSo_0 rfl (lv_at hl 0 rfl) ?_
  refine g_get (v := .ref awm) hx hb hts ixX5_isSo_X5 hown hK hP 0 rfl rfl 21 (by decide) lkX5_isSo_43 rfl dX5_isSo_1 ?_
  refine lv_iload_n hx hb dX5_isSo_4 rfl (lv_at hl 1 rfl) ?_
  refine n_ald hx hb hK hP 6 rfl (k := q) (by omega) (by decide) dX5_isSo_5 ?_
  refine lv_tope (show M1 q = nI (tn (M1 q)) from tn_of hgv (by omega)) ?_
  refine lv_istore_n (lv' := [(2, .int (nI (tn (M1 q)))), (0, .ref o), (1, .int (nI q))]) hx hb dX5_isSo_6 rfl hl (by decide) rfl (fun ls hl => ?_)
  refine lv_aload_n hx hb dX5_isSo_7 rfl (lv_at hl 1 rfl) ?_
  refine g_get (v := .ref awk) hx hb hts ixX5_isSo_X5 hown hK hP 0 rfl rfl 22 (by decide) lkX5_isSo_46 rfl dX5_isSo_8 ?_
  refine lv_iload_n hx hb dX5_isSo_11 rfl (lv_at hl 2 rfl) ?_
  refine n_ald hx hb hK hP 7 rfl (k := q) (by omega) (by decide) dX5_isSo_12 ?_
  refine lv_bipush (v := (-9)) hx hb dX5_isSo_13 (by decide) ?_
  refine lv_icmp_ne (tgt := 44) hx hb dX5_isSo_15 (by decide) (fun c1 => ?_) (fun c1 => ?_)
  ·
    refine lv_aload_n hx hb dX5_isSo_44 rfl (lv_at hl 1 rfl) ?_
    refine lv_aload_n hx hb dX5_isSo_45 rfl (lv_at hl 1 rfl) ?_
    refine g_get (v := .ref awh) hx hb hts ixX5_isSo_X5 hown hK hP 0 rfl rfl 19 (by decide) lkX5_isSo_37 rfl dX5_isSo_46 ?_
    refine lv_iload_n hx hb dX5_isSo_49 rfl (lv_at hl 2 rfl) ?_
    refine n_ald hx hb hK hP 4 rfl (k := q) (by omega) (by decide) dX5_isSo_50 ?_
    refine lv_tope (show W1 q = nI (tn (W1 q)) from tn_of hwv (by omega)) ?_
    refine lv_iload_n hx hb dX5_isSo_51 rfl (lv_at hl 0 rfl) ?_
    refine lv_aload_n hx hb dX5_isSo_52 rfl (lv_at hl 1 rfl) ?_
    refine g_get (v := .ref awn) hx hb hts ixX5_isSo_X5 hown hK hP 0 rfl rfl 20 (by decide) lkX5_isSo_40 rfl dX5_isSo_53 ?_
    refine lv_iload_n hx hb dX5_isSo_56 rfl (lv_at hl 2 rfl) ?_
    refine n_ald hx hb hK hP 5 rfl (k := q) (by omega) (by decide) dX5_isSo_57 ?_
    refine lv_tope (show N1 q = nI (tn (N1 q)) from tn_of htv (by omega)) ?_
    refine rdV (As := [.int (nI (tn (W1 q))), .int (nI (tn (M1 q))), .int (nI (tn (N1 q)))]) (rest := []) (ci := 5) (q0 := 0) hE (kX5_knowsOf l G o ff ftr aso asl ace M B ape aki abo at_ rM rB arp ark arb fb fto R awh awn awm awk amo amu P K U (tn (W1 q)) (tn (M1 q)) (tn (N1 q)) hM (by first | omega | assumption) hu hk (by first | omega | assumption) (by first | omega | assumption)) (cwV 3 hts gX5_isSo_X5_knowsOf rfl rfl rfl (by decide +kernel) ⟨Nat.le_of_ble_eq_true rfl, Nat.le_of_ble_eq_true rfl⟩) hP hK [0, 1, 2, 3] rfl rfl rfl rfl hl.1 rfl (Nat.le_of_ble_eq_true rfl) dX5_isSo_58 ⟨Nat.zero_le _, Nat.zero_le _⟩ ?_
    refine W.eq (g2 := F0 m 61 ls [.int (kn P M (tn (M1 q)) (lrn (K (tn (W1 q)))) (tn (U (tn (W1 q)))) (tn (N1 q)))]) rfl ?_
    refine lv_aload_n hx hb dX5_isSo_61 rfl (lv_at hl 1 rfl) ?_
    refine g_get (v := .ref awk) hx hb hts ixX5_isSo_X5 hown hK hP 0 rfl rfl 22 (by decide) lkX5_isSo_46 rfl dX5_isSo_62 ?_
    refine lv_iload_n hx hb dX5_isSo_65 rfl (lv_at hl 2 rfl) ?_
    refine n_ald hx hb hK hP 7 rfl (k := q) (by omega) (by decide) dX5_isSo_66 ?_
    refine lv_icmp_ne (tgt := 74) hx hb dX5_isSo_67 (by decide) (fun c2 => ?_) (fun c2 => ?_)
    ·
      refine lv_iconst (v := nI 0) hx hb dX5_isSo_74 (by decide) ?_
      exact hret _ _ _ ((bI_f (fun h => h.elim (fun q => by first | exact c1 q.1 | exact c2 q.2) (fun q => by first | exact q.1 c1 | exact c2 q.2))).symm) dX5_isSo_75
    ·
      refine lv_iconst (v := nI 1) hx hb dX5_isSo_70 (by decide) ?_
      refine lv_goto (tgt := 75) hx hb dX5_isSo_71 (by decide) ?_
      exact hret _ _ _ ((bI_t (Or.inr ⟨c1, c2⟩)).symm) dX5_isSo_75
  ·
    refine lv_aload_n hx hb dX5_isSo_18 rfl (lv_at hl 1 rfl) ?_
    refine lv_aload_n hx hb dX5_isSo_19 rfl (lv_at hl 1 rfl) ?_
    refine g_get (v := .ref awh) hx hb hts ixX5_isSo_X5 hown hK hP 0 rfl rfl 19 (by decide) lkX5_isSo_37 rfl dX5_isSo_20 ?_
    refine lv_iload_n hx hb dX5_isSo_23 rfl (lv_at hl 2 rfl) ?_
    refine n_ald hx hb hK hP 4 rfl (k := q) (by omega) (by decide) dX5_isSo_24 ?_
    refine lv_tope (show W1 q = nI (tn (W1 q)) from tn_of hwv (by omega)) ?_
    refine lv_aload_n hx hb dX5_isSo_25 rfl (lv_at hl 1 rfl) ?_
    refine g_get (v := .ref awn) hx hb hts ixX5_isSo_X5 hown hK hP 0 rfl rfl 20 (by decide) lkX5_isSo_40 rfl dX5_isSo_26 ?_
    refine lv_iload_n hx hb dX5_isSo_29 rfl (lv_at hl 2 rfl) ?_
    refine n_ald hx hb hK hP 5 rfl (k := q) (by omega) (by decide) dX5_isSo_30 ?_
    refine lv_tope (show N1 q = nI (tn (N1 q)) from tn_of htv (by omega)) ?_
    refine rdV (As := [.int (nI (tn (W1 q))), .int (nI (tn (N1 q)))]) (rest := []) (ci := 5) (q0 := 0) hE (kX5_whereOf l G o ff ftr aso asl ace M B ape aki abo at_ rM rB arp ark arb fb fto R awh awn awm awk amo amu P U (tn (W1 q)) (tn (N1 q)) hM (by first | omega | assumption) hu (by first | omega | assumption)) (cwV 2 hts gX5_isSo_X5_whereOf rfl rfl rfl (by decide +kernel) ⟨Nat.le_of_ble_eq_true rfl, Nat.le_of_ble_eq_true rfl⟩) hP hK [0, 1, 3] rfl rfl rfl rfl hl.1 rfl (Nat.le_of_ble_eq_true rfl) dX5_isSo_31 ⟨Nat.zero_le _, Nat.zero_le _⟩ ?_
    refine W.eq (g2 := F0 m 34 ls [.int (nI (wh P M (tn (U (tn (W1 q)))) (tn (N1 q))))]) rfl ?_
    refine lv_iload_n hx hb dX5_isSo_34 rfl (lv_at hl 0 rfl) ?_
    refine ic_ne (tgt := 42) hx hb (by omega) (by omega) dX5_isSo_35 (by decide) (fun c3 => ?_) (fun c3 => ?_)
    ·
      refine lv_iconst (v := nI 0) hx hb dX5_isSo_42 (by decide) ?_
      exact hret _ _ _ ((bI_f (fun h => h.elim (fun q => by first | exact c1 q.1 | exact c3 q.2) (fun q => by first | exact q.1 c1 | exact c3 q.2))).symm) dX5_isSo_43
    ·
      refine lv_iconst (v := nI 1) hx hb dX5_isSo_38 (by decide) ?_
      refine lv_goto (tgt := 43) hx hb dX5_isSo_39 (by decide) ?_
      exact hret _ _ _ ((bI_t (Or.inl ⟨c1, c3⟩)).symm) dX5_isSo_43

theorem ixX5_areSo_X5 : ∀ w ∈ wsX50, w ∈ wsX5_areSo := fun _ h => List.mem_cons_of_mem _ (List.mem_append_right _ h)
theorem lkX5_areSo_98 : Cond.fieldLink RX5 98 (TX5 18).1 (TX5 18).2.1 (TX5 18).2.2.1 ∈ wsX5_areSo := List.mem_of_getElem? (i := 1) rfl
set_option maxHeartbeats 4000000 in
set_option maxRecDepth 100000 in
theorem kX5_areSo (l : Launch) (G : Gl) (o : Nat) (ff : Int32) (ftr : Int32) (aso : Nat) (asl : Nat) (ace : Nat) (M : Nat) (B : Nat) (ape : Nat) (aki : Nat) (abo : Nat) (at_ : Int32) (rM : Int32) (rB : Int32) (arp : Nat) (ark : Nat) (arb : Nat) (fb : Int32) (fto : Int32) (R : Nat) (awh : Nat) (awn : Nat) (awm : Nat) (awk : Nat) (amo : Nat) (amu : Nat) (P : Nat → Int32) (K : Nat → Int32) (U : Nat → Int32) (W1 : Nat → Int32) (N1 : Nat → Int32) (M1 : Nat → Int32) (K1 : Nat → Int32) (hM : M ≤ 5) (hB : B ≤ 4) (hR : R ≤ 8) (hU : ∀ b, b < B → vp_in (U b) M) (hK3 : ∀ b, b < B → kd (K b)) (hrd : ∀ q, q < R → vp_in (W1 q) B ∧ vp_in (N1 q) (20 + 1) ∧ vp_in (M1 q) M) : Rd l G yX5_areSo wsX5_areSo ({ frames := 4, cells := 0, slots := 0, locals := 92 } : Room) [.ref o] [(o, .inr (5, [.int ff, .int ftr, .ref aso, .ref asl, .ref ace, .int (nI M), .int (nI B), .ref ape, .ref aki, .ref abo, .int at_, .int rM, .int rB, .ref arp, .ref ark, .ref arb, .int fb, .int fto, .int (nI R), .ref awh, .ref awn, .ref awm, .ref awk, .ref amo, .ref amu])), (ape, aI G 25 P), (aki, aI G 4 K), (abo, aI G 4 U), (awh, aI G 8 W1), (awn, aI G 8 N1), (awm, aI G 8 M1), (awk, aI G 8 K1)] (some (.int (bI (alls (-9) P M K U W1 N1 M1 K1 R)))) := by
  refine Rd.ofZ (cc := cX5_areSo) (maxL := 2) (by decide) rfl (Nat.le_of_ble_eq_true rfl) ?_
  intro p e s m below meth c Q ls hE hP hK hl hret
  obtain ⟨hx, hb, hml, hown, hts⟩ := id hE
  have hl : lv_has ls 2 [(0, .ref o)] := hl
  refine lv_iconst (v := nI 0) hx hb dX5_areSo_0 (by decide) ?_
  refine lv_istore_n (lv' := [(1, .int (nI 0)), (0, .ref o)]) hx hb dX5_areSo_1 rfl hl (by decide) rfl (fun ls hl => ?_)
  have loop1 : ∀ (d k : Nat) (ls : Array Slot), R < k + d → k ≤ R → (fi (fun q => ¬ isS (-9) P M K U (tn (W1 q)) (tn (N1 q)) (tn (M1 q)) (K1 q)) k = none) → lv_has ls 2 [(1, .int (nI k)), (0, .ref o)] → W p l e ({ frames := 4, cells := 0, slots := 0, locals := 92 } : Room) s m ([.ref o] : List Value).toArray below meth c s.heap [] 0 0 Q (F0 m 2 ls []) := by
    intro d
    induction d with
    | zero =>
      intro k ls h1 h2
      omega
    | succ d ih1 =>
      intro k ls hdk hbk hk hl
      refine lv_iload_n hx hb dX5_areSo_2 rfl (lv_at hl 0 rfl) ?_
      refine lv_aload_n hx hb dX5_areSo_3 rfl (lv_at hl 1 rfl) ?_
      refine g_get (v := .int (nI R)) hx hb hts ixX5_areSo_X5 hown hK hP 0 rfl rfl 18 (by decide) lkX5_areSo_98 rfl dX5_areSo_4 ?_
      refine ic_ge (tgt := 26) hx hb (by omega) (by omega) dX5_areSo_7 (by decide) (fun c1 => ?_) (fun c1 => ?_)
      ·
        obtain rfl : R = k := by omega
        refine lv_iconst (v := nI 1) hx hb dX5_areSo_26 (by decide) ?_
        exact hret _ _ _ ((bI_t hk).symm) dX5_areSo_27
      ·
        refine lv_aload_n hx hb dX5_areSo_10 rfl (lv_at hl 1 rfl) ?_
        refine lv_iload_n hx hb dX5_areSo_11 rfl (lv_at hl 0 rfl) ?_
        refine rdV (As := [.int (nI k)]) (rest := []) (ci := 5) (q0 := 0) hE (kX5_isSo l G o ff ftr aso asl ace M B ape aki abo at_ rM rB arp ark arb fb fto R awh awn awm awk amo amu P K U W1 N1 M1 K1 k hM hB (by first | omega | assumption) ((hrd k (by omega)).1) ((hrd k (by omega)).2.1) ((hrd k (by omega)).2.2) (hU _ (tn_lt (hrd k (by omega)).1 (by omega))) (hK3 _ (tn_lt (hrd k (by omega)).1 (by omega)))) (cwV 1 hts gX5_areSo_X5_isSo rfl rfl rfl (by decide +kernel) ⟨Nat.le_of_ble_eq_true rfl, Nat.le_of_ble_eq_true rfl⟩) hP hK [0, 1, 2, 3, 4, 5, 6, 7] rfl rfl rfl rfl hl.1 rfl (Nat.le_of_ble_eq_true rfl) dX5_areSo_12 ⟨Nat.zero_le _, Nat.zero_le _⟩ ?_
        refine W.eq (g2 := F0 m 15 ls [.int (bI (isS (-9) P M K U (tn (W1 k)) (tn (N1 k)) (tn (M1 k)) (K1 k)))]) rfl ?_
        refine bz_ne (tgt := 20) hx hb dX5_areSo_15 (by decide) (fun c2 => ?_) (fun c2 => ?_)
        ·
          refine lv_iinc (v := nI (k + 1)) (lv' := [(1, .int (nI (k + 1))), (0, .ref o)]) hx hb dX5_areSo_20 hl (k := 0) rfl (show nI k + Int32.ofInt 1 = nI (k + 1) from nI_add _ 1) (by decide) rfl (fun ls hl => ?_)
          refine lv_goto (tgt := 2) hx hb dX5_areSo_23 (by decide) ?_
          exact ih1 (k + 1) ls (by omega) (by omega) (fi_miss hk (fun h => h c2)) (lv_sub hl [0, 1] rfl)
        ·
          refine lv_iconst (v := nI 0) hx hb dX5_areSo_18 (by decide) ?_
          exact hret _ _ _ ((bI_f (fun h => by unfold alls at h; rw [fi_hit hk c2 (by omega)] at h; cases h)).symm) dX5_areSo_19
  exact loop1 (R + 1) 0 ls (by omega) (by omega) rfl (lv_sub hl [0, 1] rfl)
