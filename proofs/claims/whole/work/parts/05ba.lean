theorem ixX5_against_X5 : ∀ w ∈ wsX50, w ∈ wsX5_against := fun _ h => List.mem_cons_of_mem _ (List.mem_append_right _ h)
theorem lkX5_against_9 : Cond.fieldLink RX5 9 (TX5 2).1 (TX5 2).2.1 (TX5 2).2.2.1 ∈ wsX5_against := List.mem_of_getElem? (i := 1) rfl
theorem lkX5_against_13 : Cond.fieldLink RX5 13 (TX5 3).1 (TX5 3).2.1 (TX5 3).2.2.1 ∈ wsX5_against := List.mem_of_getElem? (i := 2) rfl
set_option maxHeartbeats 4000000 in
set_option maxRecDepth 100000 in
theorem kX5_against (l : Launch) (G : Gl) (o : Nat) (ff : Int32) (ftr : Int32) (aso : Nat) (asl : Nat) (ace : Nat) (M : Nat) (B : Nat) (ape : Nat) (aki : Nat) (abo : Nat) (at_ : Int32) (rM : Int32) (rB : Int32) (arp : Nat) (ark : Nat) (arb : Nat) (fb : Int32) (fto : Int32) (R : Nat) (awh : Nat) (awn : Nat) (awm : Nat) (awk : Nat) (amo : Nat) (amu : Nat) (SO : Nat → Int32) (SL : Nat → Int32) (k : Nat) (L : Nat) (q : Int32) (i : Int32) (n : Int32) (hk4 : k < 4) (hl9 : SL k = nI L) : Rd l G yX5_against wsX5_against ({ frames := 0, cells := 0, slots := 0, locals := 0 } : Room) [.ref o, .int (nI k), .int q, .int i, .int n] [(o, .inr (5, [.int ff, .int ftr, .ref aso, .ref asl, .ref ace, .int (nI M), .int (nI B), .ref ape, .ref aki, .ref abo, .int at_, .int rM, .int rB, .ref arp, .ref ark, .ref arb, .int fb, .int fto, .int (nI R), .ref awh, .ref awn, .ref awm, .ref awk, .ref amo, .ref amu])), (aso, aI G 4 SO), (asl, aI G 4 SL)] (some (.int (ft (-9) (SO k) L q i n))) := by
  refine Rd.ofI (cc := cX5_against) (maxL := 5) (by decide) rfl (Nat.le_of_ble_eq_true rfl) ?_
  intro p e s m below meth c Q ls hE hP hK hl hret
  obtain ⟨hx, hb, hml, hown, hts⟩ := id hE
  have hl : lv_has ls 5 [(0, .ref o), (1, .int (nI k)), (2, .int q), (3, .int i), (4, .int n)] := hl
  refine lv_aload_n hx hb dX5_against_0 rfl (lv_at hl 0 rfl) ?_
  refine g_get (v := .ref aso) hx hb hts ixX5_against_X5 hown hK hP 0 rfl rfl 2 (by decide) lkX5_against_9 rfl dX5_against_1 ?_
  refine lv_iload_n hx hb dX5_against_4 rfl (lv_at hl 1 rfl) ?_
  refine n_ald hx hb hK hP 1 rfl (k := k) (by omega) (by decide) dX5_against_5 ?_
  refine lv_bipush (v := (-9)) hx hb dX5_against_6 (by decide) ?_
  refine lv_icmp_eq (tgt := 23) hx hb dX5_against_8 (by decide) (fun c1 => ?_) (fun c1 => ?_)
  ·
    refine lv_aload_n hx hb dX5_against_23 rfl (lv_at hl 0 rfl) ?_
    refine g_get (v := .ref aso) hx hb hts ixX5_against_X5 hown hK hP 0 rfl rfl 2 (by decide) lkX5_against_9 rfl dX5_against_24 ?_
    refine lv_iload_n hx hb dX5_against_27 rfl (lv_at hl 1 rfl) ?_
    refine n_ald hx hb hK hP 1 rfl (k := k) (by omega) (by decide) dX5_against_28 ?_
    refine lv_bipush (v := (-9)) hx hb dX5_against_29 (by decide) ?_
    refine lv_icmp_ne (tgt := 36) hx hb dX5_against_31 (by decide) (fun c2 => ?_) (fun c2 => ?_)
    ·
      exact absurd c1 c2
    ·
      refine lv_iconst (v := nI 1) hx hb dX5_against_34 (by decide) ?_
      exact hret _ _ _ (by simp only [ft, iF_t c1, iF_t c2]) dX5_against_35
  ·
    refine lv_aload_n hx hb dX5_against_11 rfl (lv_at hl 0 rfl) ?_
    refine g_get (v := .ref aso) hx hb hts ixX5_against_X5 hown hK hP 0 rfl rfl 2 (by decide) lkX5_against_9 rfl dX5_against_12 ?_
    refine lv_iload_n hx hb dX5_against_15 rfl (lv_at hl 1 rfl) ?_
    refine n_ald hx hb hK hP 1 rfl (k := k) (by omega) (by decide) dX5_against_16 ?_
    refine lv_iload_n hx hb dX5_against_17 rfl (lv_at hl 2 rfl) ?_
    refine lv_icmp_eq (tgt := 23) hx hb dX5_against_18 (by decide) (fun c3 => ?_) (fun c3 => ?_)
    ·
      refine lv_aload_n hx hb dX5_against_23 rfl (lv_at hl 0 rfl) ?_
      refine g_get (v := .ref aso) hx hb hts ixX5_against_X5 hown hK hP 0 rfl rfl 2 (by decide) lkX5_against_9 rfl dX5_against_24 ?_
      refine lv_iload_n hx hb dX5_against_27 rfl (lv_at hl 1 rfl) ?_
      refine n_ald hx hb hK hP 1 rfl (k := k) (by omega) (by decide) dX5_against_28 ?_
      refine lv_bipush (v := (-9)) hx hb dX5_against_29 (by decide) ?_
      refine lv_icmp_ne (tgt := 36) hx hb dX5_against_31 (by decide) (fun c4 => ?_) (fun c4 => ?_)
      ·
        refine lv_iload hx hb dX5_against_36 (lv_at hl 4 rfl) ?_
        refine lv_if_ge (tgt := 43) hx hb dX5_against_38 (by decide) (fun c5 => ?_) (fun c5 => ?_)
        ·
          refine lv_iload_n hx hb dX5_against_43 rfl (lv_at hl 3 rfl) ?_
          refine lv_if_lt (tgt := 70) hx hb dX5_against_44 (by decide) (fun c6 => ?_) (fun c6 => ?_)
          ·
            refine lv_iconst (v := nI 3) hx hb dX5_against_70 (by decide) ?_
            refine lv_goto (tgt := 75) hx hb dX5_against_71 (by decide) ?_
            exact hret _ _ _ (by simp only [ft, iF_f c1, iF_t c3, iF_f c4, iF_t c5, iF_f (i32_le c5), iF_t c6, iF_f (i32_lt c6), iF_f (show ¬ hc L i n from fun h => by obtain ⟨q1, q2, q3, q4⟩ := h; first | contradiction | exact absurd (i32_nle c6) q4)]) dX5_against_75
          ·
            refine lv_iload_n hx hb dX5_against_47 rfl (lv_at hl 3 rfl) ?_
            refine lv_aload_n hx hb dX5_against_48 rfl (lv_at hl 0 rfl) ?_
            refine g_get (v := .ref asl) hx hb hts ixX5_against_X5 hown hK hP 0 rfl rfl 3 (by decide) lkX5_against_13 rfl dX5_against_49 ?_
            refine lv_iload_n hx hb dX5_against_52 rfl (lv_at hl 1 rfl) ?_
            refine n_ald hx hb hK hP 2 rfl (k := k) (by omega) (by decide) dX5_against_53 ?_
            refine lv_tope (show SL k = nI L from hl9) ?_
            refine lv_icmp_gt (tgt := 70) hx hb dX5_against_54 (by decide) (fun c7 => ?_) (fun c7 => ?_)
            ·
              refine lv_iconst (v := nI 3) hx hb dX5_against_70 (by decide) ?_
              refine lv_goto (tgt := 75) hx hb dX5_against_71 (by decide) ?_
              exact hret _ _ _ (by simp only [ft, iF_f c1, iF_t c3, iF_f c4, iF_t c5, iF_f (i32_le c5), iF_f c6, iF_t (i32_nlt c6), iF_t c7, iF_f (i32_lt c7), iF_f (show ¬ hc L i n from fun h => by obtain ⟨q1, q2, q3, q4⟩ := h; first | contradiction | exact absurd (i32_nle c7) q4)]) dX5_against_75
            ·
              refine lv_iload hx hb dX5_against_57 (lv_at hl 4 rfl) ?_
              refine lv_aload_n hx hb dX5_against_59 rfl (lv_at hl 0 rfl) ?_
              refine g_get (v := .ref asl) hx hb hts ixX5_against_X5 hown hK hP 0 rfl rfl 3 (by decide) lkX5_against_13 rfl dX5_against_60 ?_
              refine lv_iload_n hx hb dX5_against_63 rfl (lv_at hl 1 rfl) ?_
              refine n_ald hx hb hK hP 2 rfl (k := k) (by omega) (by decide) dX5_against_64 ?_
              refine lv_tope (show SL k = nI L from hl9) ?_
              refine lv_iload_n hx hb dX5_against_65 rfl (lv_at hl 3 rfl) ?_
              refine lv_isub hx hb dX5_against_66 ?_
              refine lv_icmp_le (tgt := 74) hx hb dX5_against_67 (by decide) (fun c8 => ?_) (fun c8 => ?_)
              ·
                refine lv_iconst (v := nI 0) hx hb dX5_against_74 (by decide) ?_
                exact hret _ _ _ (by simp only [ft, iF_f c1, iF_t c3, iF_f c4, iF_t c5, iF_f (i32_le c5), iF_f c6, iF_t (i32_nlt c6), iF_f c7, iF_t (i32_nlt c7), iF_t c8, iF_f (i32_le c8), iF_t (show hc L i n from ⟨c6, c7, i32_le c5, i32_le c8⟩)]) dX5_against_75
              ·
                refine lv_iconst (v := nI 3) hx hb dX5_against_70 (by decide) ?_
                refine lv_goto (tgt := 75) hx hb dX5_against_71 (by decide) ?_
                exact hret _ _ _ (by simp only [ft, iF_f c1, iF_t c3, iF_f c4, iF_t c5, iF_f (i32_le c5), iF_f c6, iF_t (i32_nlt c6), iF_f c7, iF_t (i32_nlt c7), iF_f c8, iF_t (i32_nle c8), iF_f (show ¬ hc L i n from fun h => by obtain ⟨q1, q2, q3, q4⟩ := h; first | contradiction | exact absurd (i32_nle c8) q4)]) dX5_against_75
        ·
          refine lv_iconst (v := nI 4) hx hb dX5_against_41 (by decide) ?_
          exact hret _ _ _ (by simp only [ft, iF_f c1, iF_t c3, iF_f c4, iF_f c5, iF_t (i32_nle c5)]) dX5_against_42
      ·
        exact absurd c4 c1
    ·
      refine lv_iconst (v := nI 2) hx hb dX5_against_21 (by decide) ?_
      exact hret _ _ _ (by simp only [ft, iF_f c1, iF_f c3]) dX5_against_22

theorem ixX5_sheet_X5 : ∀ w ∈ wsX50, w ∈ wsX5_sheet := fun _ h => List.mem_cons_of_mem _ (List.mem_append_right _ h)
theorem lkX5_sheet_55 : Cond.fieldLink RX5 55 (TX5 0).1 (TX5 0).2.1 (TX5 0).2.2.1 ∈ wsX5_sheet := List.mem_of_getElem? (i := 1) rfl
theorem lkX5_sheet_9 : Cond.fieldLink RX5 9 (TX5 2).1 (TX5 2).2.1 (TX5 2).2.2.1 ∈ wsX5_sheet := List.mem_of_getElem? (i := 2) rfl
theorem lkX5_sheet_13 : Cond.fieldLink RX5 13 (TX5 3).1 (TX5 3).2.1 (TX5 3).2.2.1 ∈ wsX5_sheet := List.mem_of_getElem? (i := 3) rfl
theorem lkX5_sheet_16 : Cond.fieldLink RX5 16 (TX5 4).1 (TX5 4).2.1 (TX5 4).2.2.1 ∈ wsX5_sheet := List.mem_of_getElem? (i := 4) rfl
set_option maxHeartbeats 4000000 in
set_option maxRecDepth 100000 in
theorem kX5_sheet (l : Launch) (G : Gl) (o : Nat) (ff : Int32) (ftr : Int32) (aso : Nat) (asl : Nat) (ace : Nat) (M : Nat) (B : Nat) (ape : Nat) (aki : Nat) (abo : Nat) (at_ : Int32) (rM : Int32) (rB : Int32) (arp : Nat) (ark : Nat) (arb : Nat) (fb : Int32) (fto : Int32) (R : Nat) (awh : Nat) (awn : Nat) (awm : Nat) (awk : Nat) (amo : Nat) (amu : Nat) (SO : Nat → Int32) (SL : Nat → Int32) (CE : Nat → Int32) (k : Int32) (lane : Int32) (n : Int32) : Wt l G yX5_sheet wsX5_sheet ({ frames := 2, cells := 0, slots := 0, locals := 42 } : Room) [.ref o, .int k, .int lane, .int n] [(o, .inr (5, [.int ff, .int ftr, .ref aso, .ref asl, .ref ace, .int (nI M), .int (nI B), .ref ape, .ref aki, .ref abo, .int at_, .int rM, .int rB, .ref arp, .ref ark, .ref arb, .int fb, .int fto, .int (nI R), .ref awh, .ref awn, .ref awm, .ref awk, .ref amo, .ref amu])), (aso, aI G 4 SO), (asl, aI G 4 SL), (ace, aI G 240 CE)] [(o, .inr (5, [.int (f_sheet k lane n), .int ftr, .ref aso, .ref asl, .ref ace, .int (nI M), .int (nI B), .ref ape, .ref aki, .ref abo, .int at_, .int rM, .int rB, .ref arp, .ref ark, .ref arb, .int fb, .int fto, .int (nI R), .ref awh, .ref awn, .ref awm, .ref awk, .ref amo, .ref amu])), (aso, aI G 4 (shG k lane n (upd SO (tn k) lane) SO)), (asl, aI G 4 (shG k lane n (upd SL (tn k) n) SL)), (ace, aI G 240 (shG k lane n (zrm CE (tn k) 60) CE))] (some (.int (s_sheet k lane n))) := by
  refine Wt.ofI (cc := cX5_sheet) (maxL := 5) (by decide) rfl (Nat.le_of_ble_eq_true rfl) ?_
  intro p e s m below meth c Q A ls hE hP hK hD hS hl hret
  obtain ⟨hx, hb, hml, hown, hts⟩ := id hE
  have hl : lv_has ls 5 [(0, .ref o), (1, .int k), (2, .int lane), (3, .int n)] := hl
  refine lv_aload_n hx hb dX5_sheet_0 rfl (lv_at hl 0 rfl) ?_
  refine lv_iconst (v := nI 0) hx hb dX5_sheet_1 (by decide) ?_
  refine g_put (v := (nI 0)) hx hb hts ixX5_sheet_X5 tyX5 tyX5_ok nmX5 hown hK hP hD hS 0 rfl rfl 0 (by decide) lkX5_sheet_55 rfl rfl (Nat.le_of_ble_eq_true rfl) dX5_sheet_2 (fun H locs hP hD hS => ?_)
  have hP : va_P G.1 vwCl [(o, .inr (5, [.int (nI 0), .int ftr, .ref aso, .ref asl, .ref ace, .int (nI M), .int (nI B), .ref ape, .ref aki, .ref abo, .int at_, .int rM, .int rB, .ref arp, .ref ark, .ref arb, .int fb, .int fto, .int (nI R), .ref awh, .ref awn, .ref awm, .ref awk, .ref amo, .ref amu])), (aso, aI G 4 SO), (asl, aI G 4 SL), (ace, aI G 240 CE)] H := hP
  have hD : va_D A [(o, .inr (5, [.int (nI 0), .int ftr, .ref aso, .ref asl, .ref ace, .int (nI M), .int (nI B), .ref ape, .ref aki, .ref abo, .int at_, .int rM, .int rB, .ref arp, .ref ark, .ref arb, .int fb, .int fto, .int (nI R), .ref awh, .ref awn, .ref awm, .ref awk, .ref amo, .ref amu])), (aso, aI G 4 SO), (asl, aI G 4 SL), (ace, aI G 240 CE)] := hD
  refine lv_iload_n hx hb dX5_sheet_5 rfl (lv_at hl 1 rfl) ?_
  refine rdS (As := [.int k]) (rest := []) hE (kX5_isSheet l G k ) (va_cwS 1 hts gX5_sheet_X5_isSheet rfl rfl rfl (by decide +kernel) ⟨Nat.le_of_ble_eq_true rfl, Nat.le_of_ble_eq_true rfl⟩) hP hK [] rfl rfl hl.1 rfl (Nat.le_of_ble_eq_true rfl) dX5_sheet_6 ⟨Nat.zero_le _, Nat.zero_le _⟩ ?_
  refine W.eq (g2 := F0 m 9 ls [.int (bI (vp_in k 4))]) rfl ?_
  refine bz_ne (tgt := 14) hx hb dX5_sheet_9 (by decide) (fun c1 => ?_) (fun c1 => ?_)
  ·
    obtain ⟨jk, hjk, rfl⟩ := vp_in_of c1 (by omega)
    refine lv_iload_n hx hb dX5_sheet_14 rfl (lv_at hl 2 rfl) ?_
    refine rdS (As := [.int lane]) (rest := []) hE (kX5_isSort l G lane ) (va_cwS 1 hts gX5_sheet_X5_isSort rfl rfl rfl (by decide +kernel) ⟨Nat.le_of_ble_eq_true rfl, Nat.le_of_ble_eq_true rfl⟩) hP hK [] rfl rfl hl.1 rfl (Nat.le_of_ble_eq_true rfl) dX5_sheet_15 ⟨Nat.zero_le _, Nat.zero_le _⟩ ?_
    refine W.eq (g2 := F0 m 18 ls [.int (bI (vp_in lane (2 + 1)))]) rfl ?_
    refine bz_eq (tgt := 27) hx hb dX5_sheet_18 (by decide) (fun c2 => ?_) (fun c2 => ?_)
    ·
      refine lv_bipush (v := (-2)) hx hb dX5_sheet_27 (by decide) ?_
      exact hret _ _ _ _ _ (by first | with_reducible rfl | (simp only [s_sheet, f_sheet, shG, iF_t c1, iF_f c2, tn_nI (show jk < 2 ^ 31 by omega)]; done) | contradiction) (by first | with_reducible exact hP | (simp only [s_sheet, f_sheet, shG, iF_t c1, iF_f c2, tn_nI (show jk < 2 ^ 31 by omega)]; with_reducible exact hP) | contradiction | (simp only [s_sheet, f_sheet, shG, iF_t c1, iF_f c2, tn_nI (show jk < 2 ^ 31 by omega)]; exact hP) | exact hP) hS dX5_sheet_29
    ·
      refine lv_iload_n hx hb dX5_sheet_21 rfl (lv_at hl 3 rfl) ?_
      refine lv_bipush (v := nI 60) hx hb dX5_sheet_22 (by decide) ?_
      refine lv_icmp_le (tgt := 30) hx hb dX5_sheet_24 (by decide) (fun c3 => ?_) (fun c3 => ?_)
      ·
        refine lv_iload_n hx hb dX5_sheet_30 rfl (lv_at hl 3 rfl) ?_
        refine lv_if_ge (tgt := 40) hx hb dX5_sheet_31 (by decide) (fun c4 => ?_) (fun c4 => ?_)
        ·
          refine lv_aload_n hx hb dX5_sheet_40 rfl (lv_at hl 0 rfl) ?_
          refine g_get (v := .ref aso) hx hb hts ixX5_sheet_X5 hown hK hP 0 rfl rfl 2 (by decide) lkX5_sheet_9 rfl dX5_sheet_41 ?_
          refine lv_iload_n hx hb dX5_sheet_44 rfl (lv_at hl 1 rfl) ?_
          refine lv_iload_n hx hb dX5_sheet_45 rfl (lv_at hl 2 rfl) ?_
          refine n_ast hx hb hK hP hD hS 1 rfl (k := jk) (by omega) (by decide) dX5_sheet_46 (fun H locs hP hD hS => ?_)
          have hP : va_P G.1 vwCl [(o, .inr (5, [.int (nI 0), .int ftr, .ref aso, .ref asl, .ref ace, .int (nI M), .int (nI B), .ref ape, .ref aki, .ref abo, .int at_, .int rM, .int rB, .ref arp, .ref ark, .ref arb, .int fb, .int fto, .int (nI R), .ref awh, .ref awn, .ref awm, .ref awk, .ref amo, .ref amu])), (aso, aI G 4 (upd SO jk lane)), (asl, aI G 4 SL), (ace, aI G 240 CE)] H := hP
          have hD : va_D A [(o, .inr (5, [.int (nI 0), .int ftr, .ref aso, .ref asl, .ref ace, .int (nI M), .int (nI B), .ref ape, .ref aki, .ref abo, .int at_, .int rM, .int rB, .ref arp, .ref ark, .ref arb, .int fb, .int fto, .int (nI R), .ref awh, .ref awn, .ref awm, .ref awk, .ref amo, .ref amu])), (aso, aI G 4 (upd SO jk lane)), (asl, aI G 4 SL), (ace, aI G 240 CE)] := hD
          refine lv_aload_n hx hb dX5_sheet_47 rfl (lv_at hl 0 rfl) ?_
          refine g_get (v := .ref asl) hx hb hts ixX5_sheet_X5 hown hK hP 0 rfl rfl 3 (by decide) lkX5_sheet_13 rfl dX5_sheet_48 ?_
          refine lv_iload_n hx hb dX5_sheet_51 rfl (lv_at hl 1 rfl) ?_
          refine lv_iload_n hx hb dX5_sheet_52 rfl (lv_at hl 3 rfl) ?_
          refine n_ast hx hb hK hP hD hS 2 rfl (k := jk) (by omega) (by decide) dX5_sheet_53 (fun H locs hP hD hS => ?_)
          have hP : va_P G.1 vwCl [(o, .inr (5, [.int (nI 0), .int ftr, .ref aso, .ref asl, .ref ace, .int (nI M), .int (nI B), .ref ape, .ref aki, .ref abo, .int at_, .int rM, .int rB, .ref arp, .ref ark, .ref arb, .int fb, .int fto, .int (nI R), .ref awh, .ref awn, .ref awm, .ref awk, .ref amo, .ref amu])), (aso, aI G 4 (upd SO jk lane)), (asl, aI G 4 (upd SL jk n)), (ace, aI G 240 CE)] H := hP
          have hD : va_D A [(o, .inr (5, [.int (nI 0), .int ftr, .ref aso, .ref asl, .ref ace, .int (nI M), .int (nI B), .ref ape, .ref aki, .ref abo, .int at_, .int rM, .int rB, .ref arp, .ref ark, .ref arb, .int fb, .int fto, .int (nI R), .ref awh, .ref awn, .ref awm, .ref awk, .ref amo, .ref amu])), (aso, aI G 4 (upd SO jk lane)), (asl, aI G 4 (upd SL jk n)), (ace, aI G 240 CE)] := hD
          refine lv_iconst (v := nI 0) hx hb dX5_sheet_54 (by decide) ?_
          refine lv_istore (lv' := [(4, .int (nI 0)), (0, .ref o), (1, .int (nI jk)), (2, .int lane), (3, .int n)]) hx hb dX5_sheet_55 hl (by decide) rfl (fun ls hl => ?_)
          have loop1 : ∀ (d q : Nat) (H : Heap) (locs : List Loc) (ls : Array Slot), 60 < q + d → q ≤ 60 → va_P G.1 vwCl [(o, .inr (5, [.int (nI 0), .int ftr, .ref aso, .ref asl, .ref ace, .int (nI M), .int (nI B), .ref ape, .ref aki, .ref abo, .int at_, .int rM, .int rB, .ref arp, .ref ark, .ref arb, .int fb, .int fto, .int (nI R), .ref awh, .ref awn, .ref awm, .ref awk, .ref amo, .ref amu])), (aso, aI G 4 (upd SO jk lane)), (asl, aI G 4 (upd SL jk n)), (ace, aI G 240 (zrm CE jk q))] H → va_D A [(o, .inr (5, [.int (nI 0), .int ftr, .ref aso, .ref asl, .ref ace, .int (nI M), .int (nI B), .ref ape, .ref aki, .ref abo, .int at_, .int rM, .int rB, .ref arp, .ref ark, .ref arb, .int fb, .int fto, .int (nI R), .ref awh, .ref awn, .ref awm, .ref awk, .ref amo, .ref amu])), (aso, aI G 4 (upd SO jk lane)), (asl, aI G 4 (upd SL jk n)), (ace, aI G 240 (zrm CE jk q))] → va_S A s.heap H locs → lv_has ls 5 [(4, .int (nI q)), (0, .ref o), (1, .int (nI jk)), (2, .int lane), (3, .int n)] → W p l e ({ frames := 2, cells := 0, slots := 0, locals := 42 } : Room) s m ([.ref o, .int (nI jk), .int lane, .int n] : List Value).toArray below meth c H locs 0 0 Q (F0 m 57 ls []) := by
            intro d
            induction d with
            | zero =>
              intro q H locs ls h1 h2
              omega
            | succ d ih1 =>
              intro q H locs ls hdq hbq hP hD hS hl
              refine lv_iload hx hb dX5_sheet_57 (lv_at hl 0 rfl) ?_
              refine lv_bipush (v := nI 60) hx hb dX5_sheet_59 (by decide) ?_
              refine ic_ge (tgt := 83) hx hb (by omega) (by omega) dX5_sheet_61 (by decide) (fun c5 => ?_) (fun c5 => ?_)
              ·
                obtain rfl : 60 = q := by omega
                refine lv_iconst (v := nI 1) hx hb dX5_sheet_83 (by decide) ?_
                exact hret _ _ _ _ _ (by first | with_reducible rfl | (simp only [s_sheet, f_sheet, shG, iF_t c1, iF_t c2, iF_t c3, iF_f (i32_le c3), iF_t c4, iF_f (i32_le c4), iF_f (Nat.not_lt.mpr c5), tn_nI (show jk < 2 ^ 31 by omega)]; done) | contradiction) (by first | with_reducible exact hP | (simp only [s_sheet, f_sheet, shG, iF_t c1, iF_t c2, iF_t c3, iF_f (i32_le c3), iF_t c4, iF_f (i32_le c4), iF_f (Nat.not_lt.mpr c5), tn_nI (show jk < 2 ^ 31 by omega)]; with_reducible exact hP) | contradiction | (simp only [s_sheet, f_sheet, shG, iF_t c1, iF_t c2, iF_t c3, iF_f (i32_le c3), iF_t c4, iF_f (i32_le c4), iF_f (Nat.not_lt.mpr c5), tn_nI (show jk < 2 ^ 31 by omega)]; exact hP) | exact hP) hS dX5_sheet_84
              ·
                refine lv_aload_n hx hb dX5_sheet_64 rfl (lv_at hl 1 rfl) ?_
                refine g_get (v := .ref ace) hx hb hts ixX5_sheet_X5 hown hK hP 0 rfl rfl 4 (by decide) lkX5_sheet_16 rfl dX5_sheet_65 ?_
                refine lv_bipush (v := nI 60) hx hb dX5_sheet_68 (by decide) ?_
                refine lv_iload_n hx hb dX5_sheet_70 rfl (lv_at hl 2 rfl) ?_
                refine lv_imul hx hb dX5_sheet_71 ?_
                refine lv_tope (show (nI 60) * (nI jk) = nI (60 * jk) from pk_mul _ _) ?_
                refine lv_iload hx hb dX5_sheet_72 (lv_at hl 0 rfl) ?_
                refine lv_iadd hx hb dX5_sheet_74 ?_
                refine lv_tope (show (nI (60 * jk)) + (nI q) = nI ((60 * jk) + q) from nI_add _ _) ?_
                refine lv_iconst (v := nI 0) hx hb dX5_sheet_75 (by decide) ?_
                refine n_ast hx hb hK hP hD hS 3 rfl (k := (60 * jk) + q) (by omega) (by decide) dX5_sheet_76 (fun H locs hP hD hS => ?_)
                have hP : va_P G.1 vwCl [(o, .inr (5, [.int (nI 0), .int ftr, .ref aso, .ref asl, .ref ace, .int (nI M), .int (nI B), .ref ape, .ref aki, .ref abo, .int at_, .int rM, .int rB, .ref arp, .ref ark, .ref arb, .int fb, .int fto, .int (nI R), .ref awh, .ref awn, .ref awm, .ref awk, .ref amo, .ref amu])), (aso, aI G 4 (upd SO jk lane)), (asl, aI G 4 (upd SL jk n)), (ace, aI G 240 (upd (zrm CE jk q) ((60 * jk) + q) (nI 0)))] H := hP
                have hD : va_D A [(o, .inr (5, [.int (nI 0), .int ftr, .ref aso, .ref asl, .ref ace, .int (nI M), .int (nI B), .ref ape, .ref aki, .ref abo, .int at_, .int rM, .int rB, .ref arp, .ref ark, .ref arb, .int fb, .int fto, .int (nI R), .ref awh, .ref awn, .ref awm, .ref awk, .ref amo, .ref amu])), (aso, aI G 4 (upd SO jk lane)), (asl, aI G 4 (upd SL jk n)), (ace, aI G 240 (upd (zrm CE jk q) ((60 * jk) + q) (nI 0)))] := hD
                refine lv_iinc (v := nI (q + 1)) (lv' := [(4, .int (nI (q + 1))), (0, .ref o), (1, .int (nI jk)), (2, .int lane), (3, .int n)]) hx hb dX5_sheet_77 hl (k := 0) rfl (show nI q + Int32.ofInt 1 = nI (q + 1) from nI_add _ 1) (by decide) rfl (fun ls hl => ?_)
                refine lv_goto (tgt := 57) hx hb dX5_sheet_80 (by decide) ?_
                have hP6 : va_P G.1 vwCl [(o, .inr (5, [.int (nI 0), .int ftr, .ref aso, .ref asl, .ref ace, .int (nI M), .int (nI B), .ref ape, .ref aki, .ref abo, .int at_, .int rM, .int rB, .ref arp, .ref ark, .ref arb, .int fb, .int fto, .int (nI R), .ref awh, .ref awn, .ref awm, .ref awk, .ref amo, .ref amu])), (aso, aI G 4 (upd SO jk lane)), (asl, aI G 4 (upd SL jk n)), (ace, aI G 240 (zrm CE jk (q + 1)))] H := by
                  rw [show (zrm CE jk (q + 1)) = (upd (zrm CE jk q) ((60 * jk) + q) (nI 0)) from by first | rfl | simp only [zrm, iF_t c1, iF_t c2, iF_t c3, iF_f (i32_le c3), iF_t c4, iF_f (i32_le c4), iF_t c5, tn_nI (show jk < 2 ^ 31 by omega)]]
                  exact hP
                have hD6 : va_D A [(o, .inr (5, [.int (nI 0), .int ftr, .ref aso, .ref asl, .ref ace, .int (nI M), .int (nI B), .ref ape, .ref aki, .ref abo, .int at_, .int rM, .int rB, .ref arp, .ref ark, .ref arb, .int fb, .int fto, .int (nI R), .ref awh, .ref awn, .ref awm, .ref awk, .ref amo, .ref amu])), (aso, aI G 4 (upd SO jk lane)), (asl, aI G 4 (upd SL jk n)), (ace, aI G 240 (zrm CE jk (q + 1)))] := by
                  rw [show (zrm CE jk (q + 1)) = (upd (zrm CE jk q) ((60 * jk) + q) (nI 0)) from by first | rfl | simp only [zrm, iF_t c1, iF_t c2, iF_t c3, iF_f (i32_le c3), iF_t c4, iF_f (i32_le c4), iF_t c5, tn_nI (show jk < 2 ^ 31 by omega)]]
                  exact hD
                exact ih1 (q + 1) H locs ls (by omega) (by omega) hP6 hD6 hS (lv_sub hl [0, 1, 2, 3, 4] rfl)
          have hP7 : va_P G.1 vwCl [(o, .inr (5, [.int (nI 0), .int ftr, .ref aso, .ref asl, .ref ace, .int (nI M), .int (nI B), .ref ape, .ref aki, .ref abo, .int at_, .int rM, .int rB, .ref arp, .ref ark, .ref arb, .int fb, .int fto, .int (nI R), .ref awh, .ref awn, .ref awm, .ref awk, .ref amo, .ref amu])), (aso, aI G 4 (upd SO jk lane)), (asl, aI G 4 (upd SL jk n)), (ace, aI G 240 (zrm CE jk 0))] H := by
            rw [show (zrm CE jk 0) = (CE) from by first | rfl | simp only [zrm, iF_t c1, iF_t c2, iF_t c3, iF_f (i32_le c3), iF_t c4, iF_f (i32_le c4), tn_nI (show jk < 2 ^ 31 by omega)]]
            exact hP
          have hD7 : va_D A [(o, .inr (5, [.int (nI 0), .int ftr, .ref aso, .ref asl, .ref ace, .int (nI M), .int (nI B), .ref ape, .ref aki, .ref abo, .int at_, .int rM, .int rB, .ref arp, .ref ark, .ref arb, .int fb, .int fto, .int (nI R), .ref awh, .ref awn, .ref awm, .ref awk, .ref amo, .ref amu])), (aso, aI G 4 (upd SO jk lane)), (asl, aI G 4 (upd SL jk n)), (ace, aI G 240 (zrm CE jk 0))] := by
            rw [show (zrm CE jk 0) = (CE) from by first | rfl | simp only [zrm, iF_t c1, iF_t c2, iF_t c3, iF_f (i32_le c3), iF_t c4, iF_f (i32_le c4), tn_nI (show jk < 2 ^ 31 by omega)]]
            exact hD
          exact loop1 (60 + 1) 0 H locs ls (by omega) (by omega) hP7 hD7 hS (lv_sub hl [0, 1, 2, 3, 4] rfl)
        ·
          refine lv_aload_n hx hb dX5_sheet_34 rfl (lv_at hl 0 rfl) ?_
          refine lv_iconst (v := nI 4) hx hb dX5_sheet_35 (by decide) ?_
          refine wtV (As := [.int (nI 4)]) (rest := []) (ci := 5) (q0 := 0) hE (kX5_fails l G o (nI 0) ftr aso asl ace M B ape aki abo at_ rM rB arp ark arb fb fto R awh awn awm awk amo amu (nI 4) ) (cwV 1 hts gX5_sheet_X5_fails rfl rfl rfl (by decide +kernel) ⟨Nat.le_of_ble_eq_true rfl, Nat.le_of_ble_eq_true rfl⟩) hP hK hD hS [0] (by decide) rfl (Eq.trans (b := [o]) rfl rfl) (W1 := [(o, .inr (5, [.int (nI 4), .int ftr, .ref aso, .ref asl, .ref ace, .int (nI M), .int (nI B), .ref ape, .ref aki, .ref abo, .int at_, .int rM, .int rB, .ref arp, .ref ark, .ref arb, .int fb, .int fto, .int (nI R), .ref awh, .ref awn, .ref awm, .ref awk, .ref amo, .ref amu])), (aso, aI G 4 SO), (asl, aI G 4 SL), (ace, aI G 240 CE)]) rfl rfl rfl rfl hl.1 rfl (Nat.le_of_ble_eq_true rfl) dX5_sheet_36 ⟨Nat.zero_le _, Nat.zero_le _⟩ (fun H locs hP hD hS => ?_)
          refine W.eq (g2 := F0 m 39 ls [.int ((-10) - (nI 4))]) rfl ?_
          exact hret _ _ _ _ _ (by first | with_reducible rfl | (simp only [s_sheet, f_sheet, shG, iF_t c1, iF_t c2, iF_t c3, iF_f (i32_le c3), iF_f c4, iF_t (i32_nle c4), tn_nI (show jk < 2 ^ 31 by omega)]; done) | contradiction) (by first | with_reducible exact hP | (simp only [s_sheet, f_sheet, shG, iF_t c1, iF_t c2, iF_t c3, iF_f (i32_le c3), iF_f c4, iF_t (i32_nle c4), tn_nI (show jk < 2 ^ 31 by omega)]; with_reducible exact hP) | contradiction | (simp only [s_sheet, f_sheet, shG, iF_t c1, iF_t c2, iF_t c3, iF_f (i32_le c3), iF_f c4, iF_t (i32_nle c4), tn_nI (show jk < 2 ^ 31 by omega)]; exact hP) | exact hP) hS dX5_sheet_39
      ·
        refine lv_bipush (v := (-2)) hx hb dX5_sheet_27 (by decide) ?_
        exact hret _ _ _ _ _ (by first | with_reducible rfl | (simp only [s_sheet, f_sheet, shG, iF_t c1, iF_t c2, iF_f c3, iF_t (i32_nle c3), tn_nI (show jk < 2 ^ 31 by omega)]; done) | contradiction) (by first | with_reducible exact hP | (simp only [s_sheet, f_sheet, shG, iF_t c1, iF_t c2, iF_f c3, iF_t (i32_nle c3), tn_nI (show jk < 2 ^ 31 by omega)]; with_reducible exact hP) | contradiction | (simp only [s_sheet, f_sheet, shG, iF_t c1, iF_t c2, iF_f c3, iF_t (i32_nle c3), tn_nI (show jk < 2 ^ 31 by omega)]; exact hP) | exact hP) hS dX5_sheet_29
  ·
    refine lv_iconst (v := (-1)) hx hb dX5_sheet_12 (by decide) ?_
    exact hret _ _ _ _ _ (by first | with_reducible rfl | (simp only [s_sheet, f_sheet, shG, iF_f c1]; done) | contradiction) (by first | with_reducible exact hP | (simp only [s_sheet, f_sheet, shG, iF_f c1]; with_reducible exact hP) | contradiction | (simp only [s_sheet, f_sheet, shG, iF_f c1]; exact hP) | exact hP) hS dX5_sheet_13

theorem ixX5_lose_X5 : ∀ w ∈ wsX50, w ∈ wsX5_lose := fun _ h => List.mem_cons_of_mem _ (List.mem_append_right _ h)
theorem lkX5_lose_9 : Cond.fieldLink RX5 9 (TX5 2).1 (TX5 2).2.1 (TX5 2).2.2.1 ∈ wsX5_lose := List.mem_of_getElem? (i := 1) rfl
set_option maxHeartbeats 4000000 in
set_option maxRecDepth 100000 in
theorem kX5_lose (l : Launch) (G : Gl) (o : Nat) (ff : Int32) (ftr : Int32) (aso : Nat) (asl : Nat) (ace : Nat) (M : Nat) (B : Nat) (ape : Nat) (aki : Nat) (abo : Nat) (at_ : Int32) (rM : Int32) (rB : Int32) (arp : Nat) (ark : Nat) (arb : Nat) (fb : Int32) (fto : Int32) (R : Nat) (awh : Nat) (awn : Nat) (awm : Nat) (awk : Nat) (amo : Nat) (amu : Nat) (SO : Nat → Int32) (k : Int32) : Wt l G yX5_lose wsX5_lose ({ frames := 2, cells := 0, slots := 0, locals := 42 } : Room) [.ref o, .int k] [(o, .inr (5, [.int ff, .int ftr, .ref aso, .ref asl, .ref ace, .int (nI M), .int (nI B), .ref ape, .ref aki, .ref abo, .int at_, .int rM, .int rB, .ref arp, .ref ark, .ref arb, .int fb, .int fto, .int (nI R), .ref awh, .ref awn, .ref awm, .ref awk, .ref amo, .ref amu])), (aso, aI G 4 SO)] [(o, .inr (5, [.int ff, .int ftr, .ref aso, .ref asl, .ref ace, .int (nI M), .int (nI B), .ref ape, .ref aki, .ref abo, .int at_, .int rM, .int rB, .ref arp, .ref ark, .ref arb, .int fb, .int fto, .int (nI R), .ref awh, .ref awn, .ref awm, .ref awk, .ref amo, .ref amu])), (aso, aI G 4 (iF (vp_in k 4) (upd SO (tn k) (-9)) SO))] (some (.int (s_lose (-9) (SO (tn k)) k))) := by
  refine Wt.ofI (cc := cX5_lose) (maxL := 3) (by decide) rfl (Nat.le_of_ble_eq_true rfl) ?_
  intro p e s m below meth c Q A ls hE hP hK hD hS hl hret
  obtain ⟨hx, hb, hml, hown, hts⟩ := id hE
  have hl : lv_has ls 3 [(0, .ref o), (1, .int k)] := hl
  refine lv_iload_n hx hb dX5_lose_0 rfl (lv_at hl 1 rfl) ?_
  refine rdS (As := [.int k]) (rest := []) hE (kX5_isSheet l G k ) (va_cwS 1 hts gX5_lose_X5_isSheet rfl rfl rfl (by decide +kernel) ⟨Nat.le_of_ble_eq_true rfl, Nat.le_of_ble_eq_true rfl⟩) hP hK [] rfl rfl hl.1 rfl (Nat.le_of_ble_eq_true rfl) dX5_lose_1 ⟨Nat.zero_le _, Nat.zero_le _⟩ ?_
  refine W.eq (g2 := F0 m 4 ls [.int (bI (vp_in k 4))]) rfl ?_
  refine bz_ne (tgt := 9) hx hb dX5_lose_4 (by decide) (fun c1 => ?_) (fun c1 => ?_)
  ·
    obtain ⟨jk, hjk, rfl⟩ := vp_in_of c1 (by omega)
    refine lv_aload_n hx hb dX5_lose_9 rfl (lv_at hl 0 rfl) ?_
    refine g_get (v := .ref aso) hx hb hts ixX5_lose_X5 hown hK hP 0 rfl rfl 2 (by decide) lkX5_lose_9 rfl dX5_lose_10 ?_
    refine lv_iload_n hx hb dX5_lose_13 rfl (lv_at hl 1 rfl) ?_
    refine n_ald hx hb hK hP 1 rfl (k := jk) (by omega) (by decide) dX5_lose_14 ?_
    refine lv_bipush (v := (-9)) hx hb dX5_lose_15 (by decide) ?_
    refine lv_icmp_ne (tgt := 24) hx hb dX5_lose_17 (by decide) (fun c2 => ?_) (fun c2 => ?_)
    ·
      refine lv_iconst (v := nI 1) hx hb dX5_lose_24 (by decide) ?_
      refine lv_istore_n (lv' := [(2, .int (nI 1)), (0, .ref o), (1, .int (nI jk))]) hx hb dX5_lose_25 rfl hl (by decide) rfl (fun ls hl => ?_)
      refine lv_aload_n hx hb dX5_lose_26 rfl (lv_at hl 1 rfl) ?_
      refine g_get (v := .ref aso) hx hb hts ixX5_lose_X5 hown hK hP 0 rfl rfl 2 (by decide) lkX5_lose_9 rfl dX5_lose_27 ?_
      refine lv_iload_n hx hb dX5_lose_30 rfl (lv_at hl 2 rfl) ?_
      refine lv_bipush (v := (-9)) hx hb dX5_lose_31 (by decide) ?_
      refine n_ast hx hb hK hP hD hS 1 rfl (k := jk) (by omega) (by decide) dX5_lose_33 (fun H locs hP hD hS => ?_)
      have hP : va_P G.1 vwCl [(o, .inr (5, [.int ff, .int ftr, .ref aso, .ref asl, .ref ace, .int (nI M), .int (nI B), .ref ape, .ref aki, .ref abo, .int at_, .int rM, .int rB, .ref arp, .ref ark, .ref arb, .int fb, .int fto, .int (nI R), .ref awh, .ref awn, .ref awm, .ref awk, .ref amo, .ref amu])), (aso, aI G 4 (upd SO jk (-9)))] H := hP
      have hD : va_D A [(o, .inr (5, [.int ff, .int ftr, .ref aso, .ref asl, .ref ace, .int (nI M), .int (nI B), .ref ape, .ref aki, .ref abo, .int at_, .int rM, .int rB, .ref arp, .ref ark, .ref arb, .int fb, .int fto, .int (nI R), .ref awh, .ref awn, .ref awm, .ref awk, .ref amo, .ref amu])), (aso, aI G 4 (upd SO jk (-9)))] := hD
      refine lv_iload_n hx hb dX5_lose_34 rfl (lv_at hl 0 rfl) ?_
      exact hret _ _ _ _ _ (by first | with_reducible rfl | (simp only [s_lose, iF_t c1, iF_f c2, tn_nI (show jk < 2 ^ 31 by omega)]; done) | contradiction) (by first | with_reducible exact hP | (simp only [s_lose, iF_t c1, iF_f c2, tn_nI (show jk < 2 ^ 31 by omega)]; with_reducible exact hP) | contradiction | (simp only [s_lose, iF_t c1, iF_f c2, tn_nI (show jk < 2 ^ 31 by omega)]; exact hP) | exact hP) hS dX5_lose_35
    ·
      refine lv_iconst (v := nI 0) hx hb dX5_lose_20 (by decide) ?_
      refine lv_goto (tgt := 25) hx hb dX5_lose_21 (by decide) ?_
      refine lv_istore_n (lv' := [(2, .int (nI 0)), (0, .ref o), (1, .int (nI jk))]) hx hb dX5_lose_25 rfl hl (by decide) rfl (fun ls hl => ?_)
      refine lv_aload_n hx hb dX5_lose_26 rfl (lv_at hl 1 rfl) ?_
      refine g_get (v := .ref aso) hx hb hts ixX5_lose_X5 hown hK hP 0 rfl rfl 2 (by decide) lkX5_lose_9 rfl dX5_lose_27 ?_
      refine lv_iload_n hx hb dX5_lose_30 rfl (lv_at hl 2 rfl) ?_
      refine lv_bipush (v := (-9)) hx hb dX5_lose_31 (by decide) ?_
      refine n_ast hx hb hK hP hD hS 1 rfl (k := jk) (by omega) (by decide) dX5_lose_33 (fun H locs hP hD hS => ?_)
      have hP : va_P G.1 vwCl [(o, .inr (5, [.int ff, .int ftr, .ref aso, .ref asl, .ref ace, .int (nI M), .int (nI B), .ref ape, .ref aki, .ref abo, .int at_, .int rM, .int rB, .ref arp, .ref ark, .ref arb, .int fb, .int fto, .int (nI R), .ref awh, .ref awn, .ref awm, .ref awk, .ref amo, .ref amu])), (aso, aI G 4 (upd SO jk (-9)))] H := hP
      have hD : va_D A [(o, .inr (5, [.int ff, .int ftr, .ref aso, .ref asl, .ref ace, .int (nI M), .int (nI B), .ref ape, .ref aki, .ref abo, .int at_, .int rM, .int rB, .ref arp, .ref ark, .ref arb, .int fb, .int fto, .int (nI R), .ref awh, .ref awn, .ref awm, .ref awk, .ref amo, .ref amu])), (aso, aI G 4 (upd SO jk (-9)))] := hD
      refine lv_iload_n hx hb dX5_lose_34 rfl (lv_at hl 0 rfl) ?_
      exact hret _ _ _ _ _ (by first | with_reducible rfl | (simp only [s_lose, iF_t c1, iF_t c2, tn_nI (show jk < 2 ^ 31 by omega)]; done) | contradiction) (by first | with_reducible exact hP | (simp only [s_lose, iF_t c1, iF_t c2, tn_nI (show jk < 2 ^ 31 by omega)]; with_reducible exact hP) | contradiction | (simp only [s_lose, iF_t c1, iF_t c2, tn_nI (show jk < 2 ^ 31 by omega)]; exact hP) | exact hP) hS dX5_lose_35
  ·
    refine lv_iconst (v := (-1)) hx hb dX5_lose_7 (by decide) ?_
    exact hret _ _ _ _ _ (by first | with_reducible rfl | (simp only [s_lose, iF_f c1]; done) | contradiction) (by first | with_reducible exact hP | (simp only [s_lose, iF_f c1]; with_reducible exact hP) | contradiction | (simp only [s_lose, iF_f c1]; exact hP) | exact hP) hS dX5_lose_8

theorem ixX5_put_X5 : ∀ w ∈ wsX50, w ∈ wsX5_put := fun _ h => List.mem_cons_of_mem _ (List.mem_append_right _ h)
theorem lkX5_put_55 : Cond.fieldLink RX5 55 (TX5 0).1 (TX5 0).2.1 (TX5 0).2.2.1 ∈ wsX5_put := List.mem_of_getElem? (i := 1) rfl
theorem lkX5_put_9 : Cond.fieldLink RX5 9 (TX5 2).1 (TX5 2).2.1 (TX5 2).2.2.1 ∈ wsX5_put := List.mem_of_getElem? (i := 2) rfl
theorem lkX5_put_13 : Cond.fieldLink RX5 13 (TX5 3).1 (TX5 3).2.1 (TX5 3).2.2.1 ∈ wsX5_put := List.mem_of_getElem? (i := 3) rfl
theorem lkX5_put_16 : Cond.fieldLink RX5 16 (TX5 4).1 (TX5 4).2.1 (TX5 4).2.2.1 ∈ wsX5_put := List.mem_of_getElem? (i := 4) rfl
set_option maxHeartbeats 4000000 in
set_option maxRecDepth 100000 in
theorem kX5_put (l : Launch) (G : Gl) (o : Nat) (ff : Int32) (ftr : Int32) (aso : Nat) (asl : Nat) (ace : Nat) (M : Nat) (B : Nat) (ape : Nat) (aki : Nat) (abo : Nat) (at_ : Int32) (rM : Int32) (rB : Int32) (arp : Nat) (ark : Nat) (arb : Nat) (fb : Int32) (fto : Int32) (R : Nat) (awh : Nat) (awn : Nat) (awm : Nat) (awk : Nat) (amo : Nat) (amu : Nat) (SO : Nat → Int32) (SL : Nat → Int32) (CE : Nat → Int32) (L : Nat) (k : Int32) (i : Int32) (v : Int32) (hlk : ∀ j, j < 4 → k = nI j → SL j = nI L) (hL : L ≤ 60) : Wt l G yX5_put wsX5_put ({ frames := 2, cells := 0, slots := 0, locals := 42 } : Room) [.ref o, .int k, .int i, .int v] [(o, .inr (5, [.int ff, .int ftr, .ref aso, .ref asl, .ref ace, .int (nI M), .int (nI B), .ref ape, .ref aki, .ref abo, .int at_, .int rM, .int rB, .ref arp, .ref ark, .ref arb, .int fb, .int fto, .int (nI R), .ref awh, .ref awn, .ref awm, .ref awk, .ref amo, .ref amu])), (aso, aI G 4 SO), (asl, aI G 4 SL), (ace, aI G 240 CE)] [(o, .inr (5, [.int (f_put (-9) (SO (tn k)) L k i), .int ftr, .ref aso, .ref asl, .ref ace, .int (nI M), .int (nI B), .ref ape, .ref aki, .ref abo, .int at_, .int rM, .int rB, .ref arp, .ref ark, .ref arb, .int fb, .int fto, .int (nI R), .ref awh, .ref awn, .ref awm, .ref awk, .ref amo, .ref amu])), (aso, aI G 4 SO), (asl, aI G 4 SL), (ace, aI G 240 (ptG (-9) (SO (tn k)) L k i (upd CE (60 * tn k + tn i) (ctl (SO (tn k)) v)) CE))] (some (.int (s_put (-9) (SO (tn k)) L k i))) := by
  refine Wt.ofI (cc := cX5_put) (maxL := 4) (by decide) rfl (Nat.le_of_ble_eq_true rfl) ?_
  intro p e s m below meth c Q A ls hE hP hK hD hS hl hret
  obtain ⟨hx, hb, hml, hown, hts⟩ := id hE
  have hl : lv_has ls 4 [(0, .ref o), (1, .int k), (2, .int i), (3, .int v)] := hl
  refine lv_aload_n hx hb dX5_put_0 rfl (lv_at hl 0 rfl) ?_
  refine lv_iconst (v := nI 0) hx hb dX5_put_1 (by decide) ?_
  refine g_put (v := (nI 0)) hx hb hts ixX5_put_X5 tyX5 tyX5_ok nmX5 hown hK hP hD hS 0 rfl rfl 0 (by decide) lkX5_put_55 rfl rfl (Nat.le_of_ble_eq_true rfl) dX5_put_2 (fun H locs hP hD hS => ?_)
  have hP : va_P G.1 vwCl [(o, .inr (5, [.int (nI 0), .int ftr, .ref aso, .ref asl, .ref ace, .int (nI M), .int (nI B), .ref ape, .ref aki, .ref abo, .int at_, .int rM, .int rB, .ref arp, .ref ark, .ref arb, .int fb, .int fto, .int (nI R), .ref awh, .ref awn, .ref awm, .ref awk, .ref amo, .ref amu])), (aso, aI G 4 SO), (asl, aI G 4 SL), (ace, aI G 240 CE)] H := hP
  have hD : va_D A [(o, .inr (5, [.int (nI 0), .int ftr, .ref aso, .ref asl, .ref ace, .int (nI M), .int (nI B), .ref ape, .ref aki, .ref abo, .int at_, .int rM, .int rB, .ref arp, .ref ark, .ref arb, .int fb, .int fto, .int (nI R), .ref awh, .ref awn, .ref awm, .ref awk, .ref amo, .ref amu])), (aso, aI G 4 SO), (asl, aI G 4 SL), (ace, aI G 240 CE)] := hD
  refine lv_iload_n hx hb dX5_put_5 rfl (lv_at hl 1 rfl) ?_
  refine rdS (As := [.int k]) (rest := []) hE (kX5_isSheet l G k ) (va_cwS 1 hts gX5_put_X5_isSheet rfl rfl rfl (by decide +kernel) ⟨Nat.le_of_ble_eq_true rfl, Nat.le_of_ble_eq_true rfl⟩) hP hK [] rfl rfl hl.1 rfl (Nat.le_of_ble_eq_true rfl) dX5_put_6 ⟨Nat.zero_le _, Nat.zero_le _⟩ ?_
  refine W.eq (g2 := F0 m 9 ls [.int (bI (vp_in k 4))]) rfl ?_
  refine bz_ne (tgt := 14) hx hb dX5_put_9 (by decide) (fun c1 => ?_) (fun c1 => ?_)
  ·
    obtain ⟨jk, hjk, rfl⟩ := vp_in_of c1 (by omega)
    refine lv_aload_n hx hb dX5_put_14 rfl (lv_at hl 0 rfl) ?_
    refine g_get (v := .ref aso) hx hb hts ixX5_put_X5 hown hK hP 0 rfl rfl 2 (by decide) lkX5_put_9 rfl dX5_put_15 ?_
    refine lv_iload_n hx hb dX5_put_18 rfl (lv_at hl 1 rfl) ?_
    refine n_ald hx hb hK hP 1 rfl (k := jk) (by omega) (by decide) dX5_put_19 ?_
    refine lv_bipush (v := (-9)) hx hb dX5_put_20 (by decide) ?_
    refine lv_icmp_ne (tgt := 31) hx hb dX5_put_22 (by decide) (fun c2 => ?_) (fun c2 => ?_)
    ·
      refine lv_iload_n hx hb dX5_put_31 rfl (lv_at hl 2 rfl) ?_
      refine lv_iconst (v := nI 0) hx hb dX5_put_32 (by decide) ?_
      refine lv_aload_n hx hb dX5_put_33 rfl (lv_at hl 0 rfl) ?_
      refine g_get (v := .ref asl) hx hb hts ixX5_put_X5 hown hK hP 0 rfl rfl 3 (by decide) lkX5_put_13 rfl dX5_put_34 ?_
      refine lv_iload_n hx hb dX5_put_37 rfl (lv_at hl 1 rfl) ?_
      refine n_ald hx hb hK hP 2 rfl (k := jk) (by omega) (by decide) dX5_put_38 ?_
      refine lv_tope (show SL jk = nI L from hlk jk (by omega) rfl) ?_
      refine lv_iconst (v := nI 1) hx hb dX5_put_39 (by decide) ?_
      refine lv_isub hx hb dX5_put_40 ?_
      refine rdS (As := [.int i, .int (nI 0), .int ((nI L) - (nI 1))]) (rest := []) hE (kX5_within l G i (nI 0) ((nI L) - (nI 1)) ) (va_cwS 3 hts gX5_put_X5_within rfl rfl rfl (by decide +kernel) ⟨Nat.le_of_ble_eq_true rfl, Nat.le_of_ble_eq_true rfl⟩) hP hK [] rfl rfl hl.1 rfl (Nat.le_of_ble_eq_true rfl) dX5_put_41 ⟨Nat.zero_le _, Nat.zero_le _⟩ ?_
      refine W.eq (g2 := F0 m 44 ls [.int (bI (¬ i < (nI 0) ∧ ¬ ((nI L) - (nI 1)) < i))]) rfl ?_
      refine bz_ne (tgt := 53) hx hb dX5_put_44 (by decide) (fun c3 => ?_) (fun c3 => ?_)
      ·
        have h98 := (hc1_iff (show L ≤ 240 by omega)).mp c3
        have h97 := h98
        obtain ⟨ji, hji, rfl⟩ := hc_1 h97 (by omega)
        refine lv_aload_n hx hb dX5_put_53 rfl (lv_at hl 0 rfl) ?_
        refine g_get (v := .ref ace) hx hb hts ixX5_put_X5 hown hK hP 0 rfl rfl 4 (by decide) lkX5_put_16 rfl dX5_put_54 ?_
        refine lv_bipush (v := nI 60) hx hb dX5_put_57 (by decide) ?_
        refine lv_iload_n hx hb dX5_put_59 rfl (lv_at hl 1 rfl) ?_
        refine lv_imul hx hb dX5_put_60 ?_
        refine lv_tope (show (nI 60) * (nI jk) = nI (60 * jk) from pk_mul _ _) ?_
        refine lv_iload_n hx hb dX5_put_61 rfl (lv_at hl 2 rfl) ?_
        refine lv_iadd hx hb dX5_put_62 ?_
        refine lv_tope (show (nI (60 * jk)) + (nI ji) = nI ((60 * jk) + ji) from nI_add _ _) ?_
        refine lv_aload_n hx hb dX5_put_63 rfl (lv_at hl 0 rfl) ?_
        refine g_get (v := .ref aso) hx hb hts ixX5_put_X5 hown hK hP 0 rfl rfl 2 (by decide) lkX5_put_9 rfl dX5_put_64 ?_
        refine lv_iload_n hx hb dX5_put_67 rfl (lv_at hl 1 rfl) ?_
        refine n_ald hx hb hK hP 1 rfl (k := jk) (by omega) (by decide) dX5_put_68 ?_
        refine lv_if_ne (tgt := 77) hx hb dX5_put_69 (by decide) (fun c4 => ?_) (fun c4 => ?_)
        ·
          refine lv_aload_n hx hb dX5_put_77 rfl (lv_at hl 0 rfl) ?_
          refine g_get (v := .ref aso) hx hb hts ixX5_put_X5 hown hK hP 0 rfl rfl 2 (by decide) lkX5_put_9 rfl dX5_put_78 ?_
          refine lv_iload_n hx hb dX5_put_81 rfl (lv_at hl 1 rfl) ?_
          refine n_ald hx hb hK hP 1 rfl (k := jk) (by omega) (by decide) dX5_put_82 ?_
          refine lv_iconst (v := nI 1) hx hb dX5_put_83 (by decide) ?_
          refine lv_icmp_ne (tgt := 92) hx hb dX5_put_84 (by decide) (fun c5 => ?_) (fun c5 => ?_)
          ·
            refine lv_iload_n hx hb dX5_put_92 rfl (lv_at hl 3 rfl) ?_
            refine n_ast hx hb hK hP hD hS 3 rfl (k := (60 * jk) + ji) (by omega) (by decide) dX5_put_93 (fun H locs hP hD hS => ?_)
            have hP : va_P G.1 vwCl [(o, .inr (5, [.int (nI 0), .int ftr, .ref aso, .ref asl, .ref ace, .int (nI M), .int (nI B), .ref ape, .ref aki, .ref abo, .int at_, .int rM, .int rB, .ref arp, .ref ark, .ref arb, .int fb, .int fto, .int (nI R), .ref awh, .ref awn, .ref awm, .ref awk, .ref amo, .ref amu])), (aso, aI G 4 SO), (asl, aI G 4 SL), (ace, aI G 240 (upd CE ((60 * jk) + ji) v))] H := hP
            have hD : va_D A [(o, .inr (5, [.int (nI 0), .int ftr, .ref aso, .ref asl, .ref ace, .int (nI M), .int (nI B), .ref ape, .ref aki, .ref abo, .int at_, .int rM, .int rB, .ref arp, .ref ark, .ref arb, .int fb, .int fto, .int (nI R), .ref awh, .ref awn, .ref awm, .ref awk, .ref amo, .ref amu])), (aso, aI G 4 SO), (asl, aI G 4 SL), (ace, aI G 240 (upd CE ((60 * jk) + ji) v))] := hD
            refine lv_iconst (v := nI 1) hx hb dX5_put_94 (by decide) ?_
            exact hret _ _ _ _ _ (by first | with_reducible rfl | (simp only [s_put, f_put, ptG, ctl, iF_t c1, iF_f c2, iF_t c3, iF_t h98, iF_f c4, iF_f c5, iF_f (show ¬ SO jk = 1 from c5), tn_nI (show jk < 2 ^ 31 by omega), tn_nI (show ji < 2 ^ 31 by omega)]; done) | contradiction) (by first | with_reducible exact hP | (simp only [s_put, f_put, ptG, ctl, iF_t c1, iF_f c2, iF_t c3, iF_t h98, iF_f c4, iF_f c5, iF_f (show ¬ SO jk = 1 from c5), tn_nI (show jk < 2 ^ 31 by omega), tn_nI (show ji < 2 ^ 31 by omega)]; with_reducible exact hP) | contradiction | (simp only [s_put, f_put, ptG, ctl, iF_t c1, iF_f c2, iF_t c3, iF_t h98, iF_f c4, iF_f c5, iF_f (show ¬ SO jk = 1 from c5), tn_nI (show jk < 2 ^ 31 by omega), tn_nI (show ji < 2 ^ 31 by omega)]; exact hP) | exact hP) hS dX5_put_95
          ·
            refine lv_iload_n hx hb dX5_put_87 rfl (lv_at hl 3 rfl) ?_
            refine lv_i2s (v := v.toInt16.toInt32) hx hb dX5_put_88 rfl ?_
            refine lv_goto (tgt := 93) hx hb dX5_put_89 (by decide) ?_
            refine n_ast hx hb hK hP hD hS 3 rfl (k := (60 * jk) + ji) (by omega) (by decide) dX5_put_93 (fun H locs hP hD hS => ?_)
            have hP : va_P G.1 vwCl [(o, .inr (5, [.int (nI 0), .int ftr, .ref aso, .ref asl, .ref ace, .int (nI M), .int (nI B), .ref ape, .ref aki, .ref abo, .int at_, .int rM, .int rB, .ref arp, .ref ark, .ref arb, .int fb, .int fto, .int (nI R), .ref awh, .ref awn, .ref awm, .ref awk, .ref amo, .ref amu])), (aso, aI G 4 SO), (asl, aI G 4 SL), (ace, aI G 240 (upd CE ((60 * jk) + ji) v.toInt16.toInt32))] H := hP
            have hD : va_D A [(o, .inr (5, [.int (nI 0), .int ftr, .ref aso, .ref asl, .ref ace, .int (nI M), .int (nI B), .ref ape, .ref aki, .ref abo, .int at_, .int rM, .int rB, .ref arp, .ref ark, .ref arb, .int fb, .int fto, .int (nI R), .ref awh, .ref awn, .ref awm, .ref awk, .ref amo, .ref amu])), (aso, aI G 4 SO), (asl, aI G 4 SL), (ace, aI G 240 (upd CE ((60 * jk) + ji) v.toInt16.toInt32))] := hD
            refine lv_iconst (v := nI 1) hx hb dX5_put_94 (by decide) ?_
            exact hret _ _ _ _ _ (by first | with_reducible rfl | (simp only [s_put, f_put, ptG, ctl, iF_t c1, iF_f c2, iF_t c3, iF_t h98, iF_f c4, iF_t c5, iF_t (show SO jk = 1 from c5), tn_nI (show jk < 2 ^ 31 by omega), tn_nI (show ji < 2 ^ 31 by omega)]; done) | contradiction) (by first | with_reducible exact hP | (simp only [s_put, f_put, ptG, ctl, iF_t c1, iF_f c2, iF_t c3, iF_t h98, iF_f c4, iF_t c5, iF_t (show SO jk = 1 from c5), tn_nI (show jk < 2 ^ 31 by omega), tn_nI (show ji < 2 ^ 31 by omega)]; with_reducible exact hP) | contradiction | (simp only [s_put, f_put, ptG, ctl, iF_t c1, iF_f c2, iF_t c3, iF_t h98, iF_f c4, iF_t c5, iF_t (show SO jk = 1 from c5), tn_nI (show jk < 2 ^ 31 by omega), tn_nI (show ji < 2 ^ 31 by omega)]; exact hP) | exact hP) hS dX5_put_95
        ·
          refine lv_iload_n hx hb dX5_put_72 rfl (lv_at hl 3 rfl) ?_
          refine lv_i2b (v := v.toInt8.toInt32) hx hb dX5_put_73 rfl ?_
          refine lv_goto (tgt := 93) hx hb dX5_put_74 (by decide) ?_
          refine n_ast hx hb hK hP hD hS 3 rfl (k := (60 * jk) + ji) (by omega) (by decide) dX5_put_93 (fun H locs hP hD hS => ?_)
          have hP : va_P G.1 vwCl [(o, .inr (5, [.int (nI 0), .int ftr, .ref aso, .ref asl, .ref ace, .int (nI M), .int (nI B), .ref ape, .ref aki, .ref abo, .int at_, .int rM, .int rB, .ref arp, .ref ark, .ref arb, .int fb, .int fto, .int (nI R), .ref awh, .ref awn, .ref awm, .ref awk, .ref amo, .ref amu])), (aso, aI G 4 SO), (asl, aI G 4 SL), (ace, aI G 240 (upd CE ((60 * jk) + ji) v.toInt8.toInt32))] H := hP
          have hD : va_D A [(o, .inr (5, [.int (nI 0), .int ftr, .ref aso, .ref asl, .ref ace, .int (nI M), .int (nI B), .ref ape, .ref aki, .ref abo, .int at_, .int rM, .int rB, .ref arp, .ref ark, .ref arb, .int fb, .int fto, .int (nI R), .ref awh, .ref awn, .ref awm, .ref awk, .ref amo, .ref amu])), (aso, aI G 4 SO), (asl, aI G 4 SL), (ace, aI G 240 (upd CE ((60 * jk) + ji) v.toInt8.toInt32))] := hD
          refine lv_iconst (v := nI 1) hx hb dX5_put_94 (by decide) ?_
          exact hret _ _ _ _ _ (by first | with_reducible rfl | (simp only [s_put, f_put, ptG, ctl, iF_t c1, iF_f c2, iF_t c3, iF_t h98, iF_t c4, tn_nI (show jk < 2 ^ 31 by omega), tn_nI (show ji < 2 ^ 31 by omega)]; done) | contradiction) (by first | with_reducible exact hP | (simp only [s_put, f_put, ptG, ctl, iF_t c1, iF_f c2, iF_t c3, iF_t h98, iF_t c4, tn_nI (show jk < 2 ^ 31 by omega), tn_nI (show ji < 2 ^ 31 by omega)]; with_reducible exact hP) | contradiction | (simp only [s_put, f_put, ptG, ctl, iF_t c1, iF_f c2, iF_t c3, iF_t h98, iF_t c4, tn_nI (show jk < 2 ^ 31 by omega), tn_nI (show ji < 2 ^ 31 by omega)]; exact hP) | exact hP) hS dX5_put_95
      ·
        have h98 := fun h => c3 ((hc1_iff (show L ≤ 240 by omega)).mpr h)
        refine lv_aload_n hx hb dX5_put_47 rfl (lv_at hl 0 rfl) ?_
        refine lv_iconst (v := nI 3) hx hb dX5_put_48 (by decide) ?_
        refine wtV (As := [.int (nI 3)]) (rest := []) (ci := 5) (q0 := 0) hE (kX5_fails l G o (nI 0) ftr aso asl ace M B ape aki abo at_ rM rB arp ark arb fb fto R awh awn awm awk amo amu (nI 3) ) (cwV 1 hts gX5_put_X5_fails rfl rfl rfl (by decide +kernel) ⟨Nat.le_of_ble_eq_true rfl, Nat.le_of_ble_eq_true rfl⟩) hP hK hD hS [0] (by decide) rfl (Eq.trans (b := [o]) rfl rfl) (W1 := [(o, .inr (5, [.int (nI 3), .int ftr, .ref aso, .ref asl, .ref ace, .int (nI M), .int (nI B), .ref ape, .ref aki, .ref abo, .int at_, .int rM, .int rB, .ref arp, .ref ark, .ref arb, .int fb, .int fto, .int (nI R), .ref awh, .ref awn, .ref awm, .ref awk, .ref amo, .ref amu])), (aso, aI G 4 SO), (asl, aI G 4 SL), (ace, aI G 240 CE)]) rfl rfl rfl rfl hl.1 rfl (Nat.le_of_ble_eq_true rfl) dX5_put_49 ⟨Nat.zero_le _, Nat.zero_le _⟩ (fun H locs hP hD hS => ?_)
        refine W.eq (g2 := F0 m 52 ls [.int ((-10) - (nI 3))]) rfl ?_
        exact hret _ _ _ _ _ (by first | with_reducible rfl | (simp only [s_put, f_put, ptG, ctl, iF_t c1, iF_f c2, iF_f c3, iF_f h98, tn_nI (show jk < 2 ^ 31 by omega)]; done) | contradiction) (by first | with_reducible exact hP | (simp only [s_put, f_put, ptG, ctl, iF_t c1, iF_f c2, iF_f c3, iF_f h98, tn_nI (show jk < 2 ^ 31 by omega)]; with_reducible exact hP) | contradiction | (simp only [s_put, f_put, ptG, ctl, iF_t c1, iF_f c2, iF_f c3, iF_f h98, tn_nI (show jk < 2 ^ 31 by omega)]; exact hP) | exact hP) hS dX5_put_52
    ·
      refine lv_aload_n hx hb dX5_put_25 rfl (lv_at hl 0 rfl) ?_
      refine lv_iconst (v := nI 1) hx hb dX5_put_26 (by decide) ?_
      refine wtV (As := [.int (nI 1)]) (rest := []) (ci := 5) (q0 := 0) hE (kX5_fails l G o (nI 0) ftr aso asl ace M B ape aki abo at_ rM rB arp ark arb fb fto R awh awn awm awk amo amu (nI 1) ) (cwV 1 hts gX5_put_X5_fails rfl rfl rfl (by decide +kernel) ⟨Nat.le_of_ble_eq_true rfl, Nat.le_of_ble_eq_true rfl⟩) hP hK hD hS [0] (by decide) rfl (Eq.trans (b := [o]) rfl rfl) (W1 := [(o, .inr (5, [.int (nI 1), .int ftr, .ref aso, .ref asl, .ref ace, .int (nI M), .int (nI B), .ref ape, .ref aki, .ref abo, .int at_, .int rM, .int rB, .ref arp, .ref ark, .ref arb, .int fb, .int fto, .int (nI R), .ref awh, .ref awn, .ref awm, .ref awk, .ref amo, .ref amu])), (aso, aI G 4 SO), (asl, aI G 4 SL), (ace, aI G 240 CE)]) rfl rfl rfl rfl hl.1 rfl (Nat.le_of_ble_eq_true rfl) dX5_put_27 ⟨Nat.zero_le _, Nat.zero_le _⟩ (fun H locs hP hD hS => ?_)
      refine W.eq (g2 := F0 m 30 ls [.int ((-10) - (nI 1))]) rfl ?_
      exact hret _ _ _ _ _ (by first | with_reducible rfl | (simp only [s_put, f_put, ptG, ctl, iF_t c1, iF_t c2, tn_nI (show jk < 2 ^ 31 by omega)]; done) | contradiction) (by first | with_reducible exact hP | (simp only [s_put, f_put, ptG, ctl, iF_t c1, iF_t c2, tn_nI (show jk < 2 ^ 31 by omega)]; with_reducible exact hP) | contradiction | (simp only [s_put, f_put, ptG, ctl, iF_t c1, iF_t c2, tn_nI (show jk < 2 ^ 31 by omega)]; exact hP) | exact hP) hS dX5_put_30
  ·
    refine lv_iconst (v := (-1)) hx hb dX5_put_12 (by decide) ?_
    exact hret _ _ _ _ _ (by first | with_reducible rfl | (simp only [s_put, f_put, ptG, ctl, iF_f c1]; done) | contradiction) (by first | with_reducible exact hP | (simp only [s_put, f_put, ptG, ctl, iF_f c1]; with_reducible exact hP) | contradiction | (simp only [s_put, f_put, ptG, ctl, iF_f c1]; exact hP) | exact hP) hS dX5_put_13

theorem ixX5_cell_X5 : ∀ w ∈ wsX50, w ∈ wsX5_cell := fun _ h => List.mem_cons_of_mem _ (List.mem_append_right _ h)
theorem lkX5_cell_55 : Cond.fieldLink RX5 55 (TX5 0).1 (TX5 0).2.1 (TX5 0).2.2.1 ∈ wsX5_cell := List.mem_of_getElem? (i := 1) rfl
theorem lkX5_cell_9 : Cond.fieldLink RX5 9 (TX5 2).1 (TX5 2).2.1 (TX5 2).2.2.1 ∈ wsX5_cell := List.mem_of_getElem? (i := 3) rfl
theorem lkX5_cell_13 : Cond.fieldLink RX5 13 (TX5 3).1 (TX5 3).2.1 (TX5 3).2.2.1 ∈ wsX5_cell := List.mem_of_getElem? (i := 4) rfl
theorem lkX5_cell_16 : Cond.fieldLink RX5 16 (TX5 4).1 (TX5 4).2.1 (TX5 4).2.2.1 ∈ wsX5_cell := List.mem_of_getElem? (i := 5) rfl
set_option maxHeartbeats 4000000 in
set_option maxRecDepth 100000 in
theorem kX5_cell (l : Launch) (G : Gl) (o : Nat) (ff : Int32) (ftr : Int32) (aso : Nat) (asl : Nat) (ace : Nat) (M : Nat) (B : Nat) (ape : Nat) (aki : Nat) (abo : Nat) (at_ : Int32) (rM : Int32) (rB : Int32) (arp : Nat) (ark : Nat) (arb : Nat) (fb : Int32) (fto : Int32) (R : Nat) (awh : Nat) (awn : Nat) (awm : Nat) (awk : Nat) (amo : Nat) (amu : Nat) (SO : Nat → Int32) (SL : Nat → Int32) (CE : Nat → Int32) (L : Nat) (k : Int32) (i : Int32) (lane : Int32) (hlk : ∀ j, j < 4 → k = nI j → SL j = nI L) (hL : L ≤ 60) : Wt l G yX5_cell wsX5_cell ({ frames := 2, cells := 0, slots := 0, locals := 42 } : Room) [.ref o, .int k, .int i, .int lane] [(o, .inr (5, [.int ff, .int ftr, .ref aso, .ref asl, .ref ace, .int (nI M), .int (nI B), .ref ape, .ref aki, .ref abo, .int at_, .int rM, .int rB, .ref arp, .ref ark, .ref arb, .int fb, .int fto, .int (nI R), .ref awh, .ref awn, .ref awm, .ref awk, .ref amo, .ref amu])), (aso, aI G 4 SO), (asl, aI G 4 SL), (ace, aI G 240 CE)] [(o, .inr (5, [.int (f_cell (ft (-9) (SO (tn k)) L lane i (nI 1)) k lane), .int ftr, .ref aso, .ref asl, .ref ace, .int (nI M), .int (nI B), .ref ape, .ref aki, .ref abo, .int at_, .int rM, .int rB, .ref arp, .ref ark, .ref arb, .int fb, .int fto, .int (nI R), .ref awh, .ref awn, .ref awm, .ref awk, .ref amo, .ref amu])), (aso, aI G 4 SO), (asl, aI G 4 SL), (ace, aI G 240 CE)] (some (.long (s_cell (ft (-9) (SO (tn k)) L lane i (nI 1)) (CE (60 * tn k + tn i)).toInt64 k lane))) := by
  refine Wt.ofL (cc := cX5_cell) (maxL := 4) (by decide) rfl (Nat.le_of_ble_eq_true rfl) ?_
  intro p e s m below meth c Q A ls hE hP hK hD hS hl hret
  obtain ⟨hx, hb, hml, hown, hts⟩ := id hE
  have hl : lv_has ls 4 [(0, .ref o), (1, .int k), (2, .int i), (3, .int lane)] := hl
  refine lv_aload_n hx hb dX5_cell_0 rfl (lv_at hl 0 rfl) ?_
  refine lv_iconst (v := nI 0) hx hb dX5_cell_1 (by decide) ?_
  refine g_put (v := (nI 0)) hx hb hts ixX5_cell_X5 tyX5 tyX5_ok nmX5 hown hK hP hD hS 0 rfl rfl 0 (by decide) lkX5_cell_55 rfl rfl (Nat.le_of_ble_eq_true rfl) dX5_cell_2 (fun H locs hP hD hS => ?_)
  have hP : va_P G.1 vwCl [(o, .inr (5, [.int (nI 0), .int ftr, .ref aso, .ref asl, .ref ace, .int (nI M), .int (nI B), .ref ape, .ref aki, .ref abo, .int at_, .int rM, .int rB, .ref arp, .ref ark, .ref arb, .int fb, .int fto, .int (nI R), .ref awh, .ref awn, .ref awm, .ref awk, .ref amo, .ref amu])), (aso, aI G 4 SO), (asl, aI G 4 SL), (ace, aI G 240 CE)] H := hP
  have hD : va_D A [(o, .inr (5, [.int (nI 0), .int ftr, .ref aso, .ref asl, .ref ace, .int (nI M), .int (nI B), .ref ape, .ref aki, .ref abo, .int at_, .int rM, .int rB, .ref arp, .ref ark, .ref arb, .int fb, .int fto, .int (nI R), .ref awh, .ref awn, .ref awm, .ref awk, .ref amo, .ref amu])), (aso, aI G 4 SO), (asl, aI G 4 SL), (ace, aI G 240 CE)] := hD
  refine lv_iload_n hx hb dX5_cell_5 rfl (lv_at hl 1 rfl) ?_
  refine rdS (As := [.int k]) (rest := []) hE (kX5_isSheet l G k ) (va_cwS 1 hts gX5_cell_X5_isSheet rfl rfl rfl (by decide +kernel) ⟨Nat.le_of_ble_eq_true rfl, Nat.le_of_ble_eq_true rfl⟩) hP hK [] rfl rfl hl.1 rfl (Nat.le_of_ble_eq_true rfl) dX5_cell_6 ⟨Nat.zero_le _, Nat.zero_le _⟩ ?_
  refine W.eq (g2 := F0 m 9 ls [.int (bI (vp_in k 4))]) rfl ?_
  refine bz_eq (tgt := 19) hx hb dX5_cell_9 (by decide) (fun c1 => ?_) (fun c1 => ?_)
  ·
    refine lv_ldc2 (v := (-9223372036854775808)) hx hb hown (hts (.constantLong RX5 59 (-9223372036854775808)) (List.mem_of_getElem? (i := 2) rfl)) dX5_cell_19 ?_
    exact hret _ _ _ _ _ (by first | with_reducible rfl | (simp only [s_cell, f_cell, ft, iF_f nz1, iF_f nz2, iF_f nz3, iF_f nn1, iF_t ze0, iF_f c1]; done) | contradiction) (by first | with_reducible exact hP | (simp only [s_cell, f_cell, ft, iF_f nz1, iF_f nz2, iF_f nz3, iF_f nn1, iF_t ze0, iF_f c1]; with_reducible exact hP) | contradiction | (simp only [s_cell, f_cell, ft, iF_f nz1, iF_f nz2, iF_f nz3, iF_f nn1, iF_t ze0, iF_f c1]; exact hP) | exact hP) hS dX5_cell_22
  ·
    obtain ⟨jk, hjk, rfl⟩ := vp_in_of c1 (by omega)
    refine lv_iload_n hx hb dX5_cell_12 rfl (lv_at hl 3 rfl) ?_
    refine rdS (As := [.int lane]) (rest := []) hE (kX5_isSort l G lane ) (va_cwS 1 hts gX5_cell_X5_isSort rfl rfl rfl (by decide +kernel) ⟨Nat.le_of_ble_eq_true rfl, Nat.le_of_ble_eq_true rfl⟩) hP hK [] rfl rfl hl.1 rfl (Nat.le_of_ble_eq_true rfl) dX5_cell_13 ⟨Nat.zero_le _, Nat.zero_le _⟩ ?_
    refine W.eq (g2 := F0 m 16 ls [.int (bI (vp_in lane (2 + 1)))]) rfl ?_
    refine bz_ne (tgt := 23) hx hb dX5_cell_16 (by decide) (fun c2 => ?_) (fun c2 => ?_)
    ·
      refine lv_aload_n hx hb dX5_cell_23 rfl (lv_at hl 0 rfl) ?_
      refine g_get (v := .ref aso) hx hb hts ixX5_cell_X5 hown hK hP 0 rfl rfl 2 (by decide) lkX5_cell_9 rfl dX5_cell_24 ?_
      refine lv_iload_n hx hb dX5_cell_27 rfl (lv_at hl 1 rfl) ?_
      refine n_ald hx hb hK hP 1 rfl (k := jk) (by omega) (by decide) dX5_cell_28 ?_
      refine lv_bipush (v := (-9)) hx hb dX5_cell_29 (by decide) ?_
      refine lv_icmp_eq (tgt := 50) hx hb dX5_cell_31 (by decide) (fun c3 => ?_) (fun c3 => ?_)
      ·
        refine lv_aload_n hx hb dX5_cell_50 rfl (lv_at hl 0 rfl) ?_
        refine g_get (v := .ref aso) hx hb hts ixX5_cell_X5 hown hK hP 0 rfl rfl 2 (by decide) lkX5_cell_9 rfl dX5_cell_51 ?_
        refine lv_iload_n hx hb dX5_cell_54 rfl (lv_at hl 1 rfl) ?_
        refine n_ald hx hb hK hP 1 rfl (k := jk) (by omega) (by decide) dX5_cell_55 ?_
        refine lv_bipush (v := (-9)) hx hb dX5_cell_56 (by decide) ?_
        refine lv_icmp_ne (tgt := 67) hx hb dX5_cell_58 (by decide) (fun c4 => ?_) (fun c4 => ?_)
        ·
          exact absurd c3 c4
        ·
          refine lv_aload_n hx hb dX5_cell_61 rfl (lv_at hl 0 rfl) ?_
          refine lv_iconst (v := nI 1) hx hb dX5_cell_62 (by decide) ?_
          refine wtV (As := [.int (nI 1)]) (rest := []) (ci := 5) (q0 := 0) hE (kX5_lost l G o (nI 0) ftr aso asl ace M B ape aki abo at_ rM rB arp ark arb fb fto R awh awn awm awk amo amu (nI 1) ) (cwV 1 hts gX5_cell_X5_lost rfl rfl rfl (by decide +kernel) ⟨Nat.le_of_ble_eq_true rfl, Nat.le_of_ble_eq_true rfl⟩) hP hK hD hS [0] (by decide) rfl (Eq.trans (b := [o]) rfl rfl) (W1 := [(o, .inr (5, [.int (nI 1), .int ftr, .ref aso, .ref asl, .ref ace, .int (nI M), .int (nI B), .ref ape, .ref aki, .ref abo, .int at_, .int rM, .int rB, .ref arp, .ref ark, .ref arb, .int fb, .int fto, .int (nI R), .ref awh, .ref awn, .ref awm, .ref awk, .ref amo, .ref amu])), (aso, aI G 4 SO), (asl, aI G 4 SL), (ace, aI G 240 CE)]) rfl rfl rfl rfl hl.1 rfl (Nat.le_of_ble_eq_true rfl) dX5_cell_63 ⟨Nat.zero_le _, Nat.zero_le _⟩ (fun H locs hP hD hS => ?_)
          refine W.eq (g2 := F0 m 66 ls [.long (-9223372036854775808)]) rfl ?_
          exact hret _ _ _ _ _ (by first | with_reducible rfl | (simp only [s_cell, f_cell, ft, iF_f nz1, iF_f nz2, iF_f nz3, iF_f nn1, iF_t ze0, iF_t c1, iF_t c2, iF_t c3, iF_t c4, tn_nI (show jk < 2 ^ 31 by omega)]; done) | contradiction) (by first | with_reducible exact hP | (simp only [s_cell, f_cell, ft, iF_f nz1, iF_f nz2, iF_f nz3, iF_f nn1, iF_t ze0, iF_t c1, iF_t c2, iF_t c3, iF_t c4, tn_nI (show jk < 2 ^ 31 by omega)]; with_reducible exact hP) | contradiction | (simp only [s_cell, f_cell, ft, iF_f nz1, iF_f nz2, iF_f nz3, iF_f nn1, iF_t ze0, iF_t c1, iF_t c2, iF_t c3, iF_t c4, tn_nI (show jk < 2 ^ 31 by omega)]; exact hP) | exact hP) hS dX5_cell_66
      ·
        refine lv_aload_n hx hb dX5_cell_34 rfl (lv_at hl 0 rfl) ?_
        refine g_get (v := .ref aso) hx hb hts ixX5_cell_X5 hown hK hP 0 rfl rfl 2 (by decide) lkX5_cell_9 rfl dX5_cell_35 ?_
        refine lv_iload_n hx hb dX5_cell_38 rfl (lv_at hl 1 rfl) ?_
        refine n_ald hx hb hK hP 1 rfl (k := jk) (by omega) (by decide) dX5_cell_39 ?_
        refine lv_iload_n hx hb dX5_cell_40 rfl (lv_at hl 3 rfl) ?_
        refine lv_icmp_eq (tgt := 50) hx hb dX5_cell_41 (by decide) (fun c5 => ?_) (fun c5 => ?_)
        ·
          refine lv_aload_n hx hb dX5_cell_50 rfl (lv_at hl 0 rfl) ?_
          refine g_get (v := .ref aso) hx hb hts ixX5_cell_X5 hown hK hP 0 rfl rfl 2 (by decide) lkX5_cell_9 rfl dX5_cell_51 ?_
          refine lv_iload_n hx hb dX5_cell_54 rfl (lv_at hl 1 rfl) ?_
          refine n_ald hx hb hK hP 1 rfl (k := jk) (by omega) (by decide) dX5_cell_55 ?_
          refine lv_bipush (v := (-9)) hx hb dX5_cell_56 (by decide) ?_
          refine lv_icmp_ne (tgt := 67) hx hb dX5_cell_58 (by decide) (fun c6 => ?_) (fun c6 => ?_)
          ·
            refine lv_iload_n hx hb dX5_cell_67 rfl (lv_at hl 2 rfl) ?_
            refine lv_iconst (v := nI 0) hx hb dX5_cell_68 (by decide) ?_
            refine lv_aload_n hx hb dX5_cell_69 rfl (lv_at hl 0 rfl) ?_
            refine g_get (v := .ref asl) hx hb hts ixX5_cell_X5 hown hK hP 0 rfl rfl 3 (by decide) lkX5_cell_13 rfl dX5_cell_70 ?_
            refine lv_iload_n hx hb dX5_cell_73 rfl (lv_at hl 1 rfl) ?_
            refine n_ald hx hb hK hP 2 rfl (k := jk) (by omega) (by decide) dX5_cell_74 ?_
            refine lv_tope (show SL jk = nI L from hlk jk (by omega) rfl) ?_
            refine lv_iconst (v := nI 1) hx hb dX5_cell_75 (by decide) ?_
            refine lv_isub hx hb dX5_cell_76 ?_
            refine rdS (As := [.int i, .int (nI 0), .int ((nI L) - (nI 1))]) (rest := []) hE (kX5_within l G i (nI 0) ((nI L) - (nI 1)) ) (va_cwS 3 hts gX5_cell_X5_within rfl rfl rfl (by decide +kernel) ⟨Nat.le_of_ble_eq_true rfl, Nat.le_of_ble_eq_true rfl⟩) hP hK [] rfl rfl hl.1 rfl (Nat.le_of_ble_eq_true rfl) dX5_cell_77 ⟨Nat.zero_le _, Nat.zero_le _⟩ ?_
            refine W.eq (g2 := F0 m 80 ls [.int (bI (¬ i < (nI 0) ∧ ¬ ((nI L) - (nI 1)) < i))]) rfl ?_
            refine bz_ne (tgt := 89) hx hb dX5_cell_80 (by decide) (fun c7 => ?_) (fun c7 => ?_)
            ·
              have h98 := (hc1_iff (show L ≤ 240 by omega)).mp c7
              have h97 := h98
              obtain ⟨ji, hji, rfl⟩ := hc_1 h97 (by omega)
              refine lv_aload_n hx hb dX5_cell_89 rfl (lv_at hl 0 rfl) ?_
              refine g_get (v := .ref ace) hx hb hts ixX5_cell_X5 hown hK hP 0 rfl rfl 4 (by decide) lkX5_cell_16 rfl dX5_cell_90 ?_
              refine lv_bipush (v := nI 60) hx hb dX5_cell_93 (by decide) ?_
              refine lv_iload_n hx hb dX5_cell_95 rfl (lv_at hl 1 rfl) ?_
              refine lv_imul hx hb dX5_cell_96 ?_
              refine lv_tope (show (nI 60) * (nI jk) = nI (60 * jk) from pk_mul _ _) ?_
              refine lv_iload_n hx hb dX5_cell_97 rfl (lv_at hl 2 rfl) ?_
              refine lv_iadd hx hb dX5_cell_98 ?_
              refine lv_tope (show (nI (60 * jk)) + (nI ji) = nI ((60 * jk) + ji) from nI_add _ _) ?_
              refine n_ald hx hb hK hP 3 rfl (k := (60 * jk) + ji) (by omega) (by decide) dX5_cell_99 ?_
              refine lv_i2l (v := (CE ((60 * jk) + ji)).toInt64) hx hb dX5_cell_100 rfl ?_
              exact hret _ _ _ _ _ (by first | with_reducible rfl | (simp only [s_cell, f_cell, ft, iF_f nz1, iF_f nz2, iF_f nz3, iF_f nn1, iF_t ze0, iF_t c1, iF_t c2, iF_f c3, iF_t c5, iF_f c6, iF_t c7, iF_t h98, tn_nI (show jk < 2 ^ 31 by omega), tn_nI (show ji < 2 ^ 31 by omega)]; done) | contradiction) (by first | with_reducible exact hP | (simp only [s_cell, f_cell, ft, iF_f nz1, iF_f nz2, iF_f nz3, iF_f nn1, iF_t ze0, iF_t c1, iF_t c2, iF_f c3, iF_t c5, iF_f c6, iF_t c7, iF_t h98, tn_nI (show jk < 2 ^ 31 by omega), tn_nI (show ji < 2 ^ 31 by omega)]; with_reducible exact hP) | contradiction | (simp only [s_cell, f_cell, ft, iF_f nz1, iF_f nz2, iF_f nz3, iF_f nn1, iF_t ze0, iF_t c1, iF_t c2, iF_f c3, iF_t c5, iF_f c6, iF_t c7, iF_t h98, tn_nI (show jk < 2 ^ 31 by omega), tn_nI (show ji < 2 ^ 31 by omega)]; exact hP) | exact hP) hS dX5_cell_101
            ·
              have h98 := fun h => c7 ((hc1_iff (show L ≤ 240 by omega)).mpr h)
              refine lv_aload_n hx hb dX5_cell_83 rfl (lv_at hl 0 rfl) ?_
              refine lv_iconst (v := nI 3) hx hb dX5_cell_84 (by decide) ?_
              refine wtV (As := [.int (nI 3)]) (rest := []) (ci := 5) (q0 := 0) hE (kX5_lost l G o (nI 0) ftr aso asl ace M B ape aki abo at_ rM rB arp ark arb fb fto R awh awn awm awk amo amu (nI 3) ) (cwV 1 hts gX5_cell_X5_lost rfl rfl rfl (by decide +kernel) ⟨Nat.le_of_ble_eq_true rfl, Nat.le_of_ble_eq_true rfl⟩) hP hK hD hS [0] (by decide) rfl (Eq.trans (b := [o]) rfl rfl) (W1 := [(o, .inr (5, [.int (nI 3), .int ftr, .ref aso, .ref asl, .ref ace, .int (nI M), .int (nI B), .ref ape, .ref aki, .ref abo, .int at_, .int rM, .int rB, .ref arp, .ref ark, .ref arb, .int fb, .int fto, .int (nI R), .ref awh, .ref awn, .ref awm, .ref awk, .ref amo, .ref amu])), (aso, aI G 4 SO), (asl, aI G 4 SL), (ace, aI G 240 CE)]) rfl rfl rfl rfl hl.1 rfl (Nat.le_of_ble_eq_true rfl) dX5_cell_85 ⟨Nat.zero_le _, Nat.zero_le _⟩ (fun H locs hP hD hS => ?_)
              refine W.eq (g2 := F0 m 88 ls [.long (-9223372036854775808)]) rfl ?_
              exact hret _ _ _ _ _ (by first | with_reducible rfl | (simp only [s_cell, f_cell, ft, iF_f nz1, iF_f nz2, iF_f nz3, iF_f nn1, iF_t ze0, iF_t c1, iF_t c2, iF_f c3, iF_t c5, iF_f c6, iF_f c7, iF_f h98, tn_nI (show jk < 2 ^ 31 by omega)]; done) | contradiction) (by first | with_reducible exact hP | (simp only [s_cell, f_cell, ft, iF_f nz1, iF_f nz2, iF_f nz3, iF_f nn1, iF_t ze0, iF_t c1, iF_t c2, iF_f c3, iF_t c5, iF_f c6, iF_f c7, iF_f h98, tn_nI (show jk < 2 ^ 31 by omega)]; with_reducible exact hP) | contradiction | (simp only [s_cell, f_cell, ft, iF_f nz1, iF_f nz2, iF_f nz3, iF_f nn1, iF_t ze0, iF_t c1, iF_t c2, iF_f c3, iF_t c5, iF_f c6, iF_f c7, iF_f h98, tn_nI (show jk < 2 ^ 31 by omega)]; exact hP) | exact hP) hS dX5_cell_88
          ·
            exact absurd c6 c3
        ·
          refine lv_aload_n hx hb dX5_cell_44 rfl (lv_at hl 0 rfl) ?_
          refine lv_iconst (v := nI 2) hx hb dX5_cell_45 (by decide) ?_
          refine wtV (As := [.int (nI 2)]) (rest := []) (ci := 5) (q0 := 0) hE (kX5_lost l G o (nI 0) ftr aso asl ace M B ape aki abo at_ rM rB arp ark arb fb fto R awh awn awm awk amo amu (nI 2) ) (cwV 1 hts gX5_cell_X5_lost rfl rfl rfl (by decide +kernel) ⟨Nat.le_of_ble_eq_true rfl, Nat.le_of_ble_eq_true rfl⟩) hP hK hD hS [0] (by decide) rfl (Eq.trans (b := [o]) rfl rfl) (W1 := [(o, .inr (5, [.int (nI 2), .int ftr, .ref aso, .ref asl, .ref ace, .int (nI M), .int (nI B), .ref ape, .ref aki, .ref abo, .int at_, .int rM, .int rB, .ref arp, .ref ark, .ref arb, .int fb, .int fto, .int (nI R), .ref awh, .ref awn, .ref awm, .ref awk, .ref amo, .ref amu])), (aso, aI G 4 SO), (asl, aI G 4 SL), (ace, aI G 240 CE)]) rfl rfl rfl rfl hl.1 rfl (Nat.le_of_ble_eq_true rfl) dX5_cell_46 ⟨Nat.zero_le _, Nat.zero_le _⟩ (fun H locs hP hD hS => ?_)
          refine W.eq (g2 := F0 m 49 ls [.long (-9223372036854775808)]) rfl ?_
          exact hret _ _ _ _ _ (by first | with_reducible rfl | (simp only [s_cell, f_cell, ft, iF_f nz1, iF_f nz2, iF_f nz3, iF_f nn1, iF_t ze0, iF_t c1, iF_t c2, iF_f c3, iF_f c5, tn_nI (show jk < 2 ^ 31 by omega)]; done) | contradiction) (by first | with_reducible exact hP | (simp only [s_cell, f_cell, ft, iF_f nz1, iF_f nz2, iF_f nz3, iF_f nn1, iF_t ze0, iF_t c1, iF_t c2, iF_f c3, iF_f c5, tn_nI (show jk < 2 ^ 31 by omega)]; with_reducible exact hP) | contradiction | (simp only [s_cell, f_cell, ft, iF_f nz1, iF_f nz2, iF_f nz3, iF_f nn1, iF_t ze0, iF_t c1, iF_t c2, iF_f c3, iF_f c5, tn_nI (show jk < 2 ^ 31 by omega)]; exact hP) | exact hP) hS dX5_cell_49
    ·
      refine lv_ldc2 (v := (-9223372036854775808)) hx hb hown (hts (.constantLong RX5 59 (-9223372036854775808)) (List.mem_of_getElem? (i := 2) rfl)) dX5_cell_19 ?_
      exact hret _ _ _ _ _ (by first | with_reducible rfl | (simp only [s_cell, f_cell, ft, iF_f nz1, iF_f nz2, iF_f nz3, iF_f nn1, iF_t ze0, iF_t c1, iF_f c2, tn_nI (show jk < 2 ^ 31 by omega)]; done) | contradiction) (by first | with_reducible exact hP | (simp only [s_cell, f_cell, ft, iF_f nz1, iF_f nz2, iF_f nz3, iF_f nn1, iF_t ze0, iF_t c1, iF_f c2, tn_nI (show jk < 2 ^ 31 by omega)]; with_reducible exact hP) | contradiction | (simp only [s_cell, f_cell, ft, iF_f nz1, iF_f nz2, iF_f nz3, iF_f nn1, iF_t ze0, iF_t c1, iF_f c2, tn_nI (show jk < 2 ^ 31 by omega)]; exact hP) | exact hP) hS dX5_cell_22

theorem ixX5_copy_X5 : ∀ w ∈ wsX50, w ∈ wsX5_copy := fun _ h => List.mem_cons_of_mem _ (List.mem_append_right _ h)
theorem lkX5_copy_55 : Cond.fieldLink RX5 55 (TX5 0).1 (TX5 0).2.1 (TX5 0).2.2.1 ∈ wsX5_copy := List.mem_of_getElem? (i := 1) rfl
theorem lkX5_copy_9 : Cond.fieldLink RX5 9 (TX5 2).1 (TX5 2).2.1 (TX5 2).2.2.1 ∈ wsX5_copy := List.mem_of_getElem? (i := 2) rfl
theorem lkX5_copy_13 : Cond.fieldLink RX5 13 (TX5 3).1 (TX5 3).2.1 (TX5 3).2.2.1 ∈ wsX5_copy := List.mem_of_getElem? (i := 3) rfl
theorem lkX5_copy_16 : Cond.fieldLink RX5 16 (TX5 4).1 (TX5 4).2.1 (TX5 4).2.2.1 ∈ wsX5_copy := List.mem_of_getElem? (i := 4) rfl
set_option maxHeartbeats 4000000 in
set_option maxRecDepth 100000 in
theorem kX5_copy (l : Launch) (G : Gl) (o : Nat) (ff : Int32) (ftr : Int32) (aso : Nat) (asl : Nat) (ace : Nat) (M : Nat) (B : Nat) (ape : Nat) (aki : Nat) (abo : Nat) (at_ : Int32) (rM : Int32) (rB : Int32) (arp : Nat) (ark : Nat) (arb : Nat) (fb : Int32) (fto : Int32) (R : Nat) (awh : Nat) (awn : Nat) (awm : Nat) (awk : Nat) (amo : Nat) (amu : Nat) (SO : Nat → Int32) (SL : Nat → Int32) (CE : Nat → Int32) (L : Nat) (L2 : Nat) (k : Int32) (i : Int32) (u : Int32) (j : Int32) (n : Int32) (hlk : ∀ j, j < 4 → k = nI j → SL j = nI L) (hl2 : ∀ j, j < 4 → u = nI j → SL j = nI L2) (hL : L ≤ 60) (hL2 : L2 ≤ 60) : Wt l G yX5_copy wsX5_copy ({ frames := 2, cells := 0, slots := 0, locals := 42 } : Room) [.ref o, .int k, .int i, .int u, .int j, .int n] [(o, .inr (5, [.int ff, .int ftr, .ref aso, .ref asl, .ref ace, .int (nI M), .int (nI B), .ref ape, .ref aki, .ref abo, .int at_, .int rM, .int rB, .ref arp, .ref ark, .ref arb, .int fb, .int fto, .int (nI R), .ref awh, .ref awn, .ref awm, .ref awk, .ref amo, .ref amu])), (aso, aI G 4 SO), (asl, aI G 4 SL), (ace, aI G 240 CE)] [(o, .inr (5, [.int (f_copy (-9) (SO (tn k)) (SO (tn u)) L L2 k u i j n), .int ftr, .ref aso, .ref asl, .ref ace, .int (nI M), .int (nI B), .ref ape, .ref aki, .ref abo, .int at_, .int rM, .int rB, .ref arp, .ref ark, .ref arb, .int fb, .int fto, .int (nI R), .ref awh, .ref awn, .ref awm, .ref awk, .ref amo, .ref amu])), (aso, aI G 4 SO), (asl, aI G 4 SL), (ace, aI G 240 (cpG (-9) (SO (tn k)) (SO (tn u)) L L2 k u i j n (va_cpy CE CE (60 * tn k + tn i) (60 * tn u + tn j) (tn n)) CE))] (some (.int (s_copy (-9) (SO (tn k)) (SO (tn u)) L L2 k u i j n))) := by
  refine Wt.ofI (cc := cX5_copy) (maxL := 10) (by decide) rfl (Nat.le_of_ble_eq_true rfl) ?_
  intro p e s m below meth c Q A ls hE hP hK hD hS hl hret
  obtain ⟨hx, hb, hml, hown, hts⟩ := id hE
  have hl : lv_has ls 10 [(0, .ref o), (1, .int k), (2, .int i), (3, .int u), (4, .int j), (5, .int n)] := hl
  refine lv_aload_n hx hb dX5_copy_0 rfl (lv_at hl 0 rfl) ?_
  refine lv_iconst (v := nI 0) hx hb dX5_copy_1 (by decide) ?_
  refine g_put (v := (nI 0)) hx hb hts ixX5_copy_X5 tyX5 tyX5_ok nmX5 hown hK hP hD hS 0 rfl rfl 0 (by decide) lkX5_copy_55 rfl rfl (Nat.le_of_ble_eq_true rfl) dX5_copy_2 (fun H locs hP hD hS => ?_)
  have hP : va_P G.1 vwCl [(o, .inr (5, [.int (nI 0), .int ftr, .ref aso, .ref asl, .ref ace, .int (nI M), .int (nI B), .ref ape, .ref aki, .ref abo, .int at_, .int rM, .int rB, .ref arp, .ref ark, .ref arb, .int fb, .int fto, .int (nI R), .ref awh, .ref awn, .ref awm, .ref awk, .ref amo, .ref amu])), (aso, aI G 4 SO), (asl, aI G 4 SL), (ace, aI G 240 CE)] H := hP
  have hD : va_D A [(o, .inr (5, [.int (nI 0), .int ftr, .ref aso, .ref asl, .ref ace, .int (nI M), .int (nI B), .ref ape, .ref aki, .ref abo, .int at_, .int rM, .int rB, .ref arp, .ref ark, .ref arb, .int fb, .int fto, .int (nI R), .ref awh, .ref awn, .ref awm, .ref awk, .ref amo, .ref amu])), (aso, aI G 4 SO), (asl, aI G 4 SL), (ace, aI G 240 CE)] := hD
  refine lv_iload_n hx hb dX5_copy_5 rfl (lv_at hl 1 rfl) ?_
  refine rdS (As := [.int k]) (rest := []) hE (kX5_isSheet l G k ) (va_cwS 1 hts gX5_copy_X5_isSheet rfl rfl rfl (by decide +kernel) ⟨Nat.le_of_ble_eq_true rfl, Nat.le_of_ble_eq_true rfl⟩) hP hK [] rfl rfl hl.1 rfl (Nat.le_of_ble_eq_true rfl) dX5_copy_6 ⟨Nat.zero_le _, Nat.zero_le _⟩ ?_
  refine W.eq (g2 := F0 m 9 ls [.int (bI (vp_in k 4))]) rfl ?_
  refine bz_eq (tgt := 19) hx hb dX5_copy_9 (by decide) (fun c1 => ?_) (fun c1 => ?_)
  ·
    refine lv_iconst (v := (-1)) hx hb dX5_copy_19 (by decide) ?_
    exact hret _ _ _ _ _ (by first | with_reducible rfl | (simp only [s_copy, f_copy, cpG, iF_f c1]; done) | contradiction) (by first | with_reducible exact hP | (simp only [s_copy, f_copy, cpG, iF_f c1]; with_reducible exact hP) | contradiction | (simp only [s_copy, f_copy, cpG, iF_f c1]; exact hP) | exact hP) hS dX5_copy_20
  ·
    obtain ⟨jk, hjk, rfl⟩ := vp_in_of c1 (by omega)
    refine lv_iload_n hx hb dX5_copy_12 rfl (lv_at hl 3 rfl) ?_
    refine rdS (As := [.int u]) (rest := []) hE (kX5_isSheet l G u ) (va_cwS 1 hts gX5_copy_X5_isSheet rfl rfl rfl (by decide +kernel) ⟨Nat.le_of_ble_eq_true rfl, Nat.le_of_ble_eq_true rfl⟩) hP hK [] rfl rfl hl.1 rfl (Nat.le_of_ble_eq_true rfl) dX5_copy_13 ⟨Nat.zero_le _, Nat.zero_le _⟩ ?_
    refine W.eq (g2 := F0 m 16 ls [.int (bI (vp_in u 4))]) rfl ?_
    refine bz_ne (tgt := 21) hx hb dX5_copy_16 (by decide) (fun c2 => ?_) (fun c2 => ?_)
    ·
      obtain ⟨ju, hju, rfl⟩ := vp_in_of c2 (by omega)
      refine lv_aload_n hx hb dX5_copy_21 rfl (lv_at hl 0 rfl) ?_
      refine g_get (v := .ref aso) hx hb hts ixX5_copy_X5 hown hK hP 0 rfl rfl 2 (by decide) lkX5_copy_9 rfl dX5_copy_22 ?_
      refine lv_iload_n hx hb dX5_copy_25 rfl (lv_at hl 1 rfl) ?_
      refine n_ald hx hb hK hP 1 rfl (k := jk) (by omega) (by decide) dX5_copy_26 ?_
      refine lv_bipush (v := (-9)) hx hb dX5_copy_27 (by decide) ?_
      refine lv_icmp_eq (tgt := 43) hx hb dX5_copy_29 (by decide) (fun c3 => ?_) (fun c3 => ?_)
      ·
        refine lv_aload_n hx hb dX5_copy_43 rfl (lv_at hl 0 rfl) ?_
        refine lv_iconst (v := nI 1) hx hb dX5_copy_44 (by decide) ?_
        refine wtV (As := [.int (nI 1)]) (rest := []) (ci := 5) (q0 := 0) hE (kX5_fails l G o (nI 0) ftr aso asl ace M B ape aki abo at_ rM rB arp ark arb fb fto R awh awn awm awk amo amu (nI 1) ) (cwV 1 hts gX5_copy_X5_fails rfl rfl rfl (by decide +kernel) ⟨Nat.le_of_ble_eq_true rfl, Nat.le_of_ble_eq_true rfl⟩) hP hK hD hS [0] (by decide) rfl (Eq.trans (b := [o]) rfl rfl) (W1 := [(o, .inr (5, [.int (nI 1), .int ftr, .ref aso, .ref asl, .ref ace, .int (nI M), .int (nI B), .ref ape, .ref aki, .ref abo, .int at_, .int rM, .int rB, .ref arp, .ref ark, .ref arb, .int fb, .int fto, .int (nI R), .ref awh, .ref awn, .ref awm, .ref awk, .ref amo, .ref amu])), (aso, aI G 4 SO), (asl, aI G 4 SL), (ace, aI G 240 CE)]) rfl rfl rfl rfl hl.1 rfl (Nat.le_of_ble_eq_true rfl) dX5_copy_45 ⟨Nat.zero_le _, Nat.zero_le _⟩ (fun H locs hP hD hS => ?_)
        refine W.eq (g2 := F0 m 48 ls [.int ((-10) - (nI 1))]) rfl ?_
        exact hret _ _ _ _ _ (by first | with_reducible rfl | (simp only [s_copy, f_copy, cpG, iF_t c1, iF_t c2, iF_t c3, tn_nI (show jk < 2 ^ 31 by omega), tn_nI (show ju < 2 ^ 31 by omega)]; done) | contradiction) (by first | with_reducible exact hP | (simp only [s_copy, f_copy, cpG, iF_t c1, iF_t c2, iF_t c3, tn_nI (show jk < 2 ^ 31 by omega), tn_nI (show ju < 2 ^ 31 by omega)]; with_reducible exact hP) | contradiction | (simp only [s_copy, f_copy, cpG, iF_t c1, iF_t c2, iF_t c3, tn_nI (show jk < 2 ^ 31 by omega), tn_nI (show ju < 2 ^ 31 by omega)]; exact hP) | exact hP) hS dX5_copy_48
      ·
        refine lv_aload_n hx hb dX5_copy_32 rfl (lv_at hl 0 rfl) ?_
        refine g_get (v := .ref aso) hx hb hts ixX5_copy_X5 hown hK hP 0 rfl rfl 2 (by decide) lkX5_copy_9 rfl dX5_copy_33 ?_
        refine lv_iload_n hx hb dX5_copy_36 rfl (lv_at hl 3 rfl) ?_
        refine n_ald hx hb hK hP 1 rfl (k := ju) (by omega) (by decide) dX5_copy_37 ?_
        refine lv_bipush (v := (-9)) hx hb dX5_copy_38 (by decide) ?_
        refine lv_icmp_ne (tgt := 49) hx hb dX5_copy_40 (by decide) (fun c4 => ?_) (fun c4 => ?_)
        ·
          refine lv_aload_n hx hb dX5_copy_49 rfl (lv_at hl 0 rfl) ?_
          refine g_get (v := .ref aso) hx hb hts ixX5_copy_X5 hown hK hP 0 rfl rfl 2 (by decide) lkX5_copy_9 rfl dX5_copy_50 ?_
          refine lv_iload_n hx hb dX5_copy_53 rfl (lv_at hl 1 rfl) ?_
          refine n_ald hx hb hK hP 1 rfl (k := jk) (by omega) (by decide) dX5_copy_54 ?_
          refine lv_aload_n hx hb dX5_copy_55 rfl (lv_at hl 0 rfl) ?_
          refine g_get (v := .ref aso) hx hb hts ixX5_copy_X5 hown hK hP 0 rfl rfl 2 (by decide) lkX5_copy_9 rfl dX5_copy_56 ?_
          refine lv_iload_n hx hb dX5_copy_59 rfl (lv_at hl 3 rfl) ?_
          refine n_ald hx hb hK hP 1 rfl (k := ju) (by omega) (by decide) dX5_copy_60 ?_
          refine lv_icmp_eq (tgt := 70) hx hb dX5_copy_61 (by decide) (fun c5 => ?_) (fun c5 => ?_)
          ·
            refine lv_iload_n hx hb dX5_copy_70 rfl (lv_at hl 2 rfl) ?_
            refine lv_if_lt (tgt := 109) hx hb dX5_copy_71 (by decide) (fun c6 => ?_) (fun c6 => ?_)
            ·
              refine lv_iconst (v := nI 0) hx hb dX5_copy_109 (by decide) ?_
              refine lv_istore (lv' := [(6, .int (nI 0)), (0, .ref o), (1, .int (nI jk)), (2, .int i), (3, .int (nI ju)), (4, .int j), (5, .int n)]) hx hb dX5_copy_110 hl (by decide) rfl (fun ls hl => ?_)
              refine lv_iload hx hb dX5_copy_112 (lv_at hl 0 rfl) ?_
              refine iz_eq (tgt := 144) hx hb (by decide) dX5_copy_114 (by decide) (fun c7 => ?_) (fun c7 => ?_)
              ·
                refine lv_aload_n hx hb dX5_copy_144 rfl (lv_at hl 1 rfl) ?_
                refine lv_iconst (v := nI 3) hx hb dX5_copy_145 (by decide) ?_
                refine wtV (As := [.int (nI 3)]) (rest := []) (ci := 5) (q0 := 0) hE (kX5_fails l G o (nI 0) ftr aso asl ace M B ape aki abo at_ rM rB arp ark arb fb fto R awh awn awm awk amo amu (nI 3) ) (cwV 1 hts gX5_copy_X5_fails rfl rfl rfl (by decide +kernel) ⟨Nat.le_of_ble_eq_true rfl, Nat.le_of_ble_eq_true rfl⟩) hP hK hD hS [0] (by decide) rfl (Eq.trans (b := [o]) rfl rfl) (W1 := [(o, .inr (5, [.int (nI 3), .int ftr, .ref aso, .ref asl, .ref ace, .int (nI M), .int (nI B), .ref ape, .ref aki, .ref abo, .int at_, .int rM, .int rB, .ref arp, .ref ark, .ref arb, .int fb, .int fto, .int (nI R), .ref awh, .ref awn, .ref awm, .ref awk, .ref amo, .ref amu])), (aso, aI G 4 SO), (asl, aI G 4 SL), (ace, aI G 240 CE)]) rfl rfl rfl rfl hl.1 rfl (Nat.le_of_ble_eq_true rfl) dX5_copy_146 ⟨Nat.zero_le _, Nat.zero_le _⟩ (fun H locs hP hD hS => ?_)
                refine W.eq (g2 := F0 m 149 ls [.int ((-10) - (nI 3))]) rfl ?_
                exact hret _ _ _ _ _ (by first | with_reducible rfl | (simp only [s_copy, f_copy, cpG, iF_t c1, iF_t c2, iF_f c3, iF_f c4, iF_t c5, iF_t c6, iF_f (i32_lt c6), iF_f (show ¬ (hc L i n ∧ hc L2 j n) from fun h => by obtain ⟨⟨q1, q2, q3, q4⟩, ⟨q5, q6, q7, q8⟩⟩ := h; first | contradiction | exact absurd (i32_nle c6) q8), tn_nI (show jk < 2 ^ 31 by omega), tn_nI (show ju < 2 ^ 31 by omega)]; done) | contradiction) (by first | with_reducible exact hP | (simp only [s_copy, f_copy, cpG, iF_t c1, iF_t c2, iF_f c3, iF_f c4, iF_t c5, iF_t c6, iF_f (i32_lt c6), iF_f (show ¬ (hc L i n ∧ hc L2 j n) from fun h => by obtain ⟨⟨q1, q2, q3, q4⟩, ⟨q5, q6, q7, q8⟩⟩ := h; first | contradiction | exact absurd (i32_nle c6) q8), tn_nI (show jk < 2 ^ 31 by omega), tn_nI (show ju < 2 ^ 31 by omega)]; with_reducible exact hP) | contradiction | (simp only [s_copy, f_copy, cpG, iF_t c1, iF_t c2, iF_f c3, iF_f c4, iF_t c5, iF_t c6, iF_f (i32_lt c6), iF_f (show ¬ (hc L i n ∧ hc L2 j n) from fun h => by obtain ⟨⟨q1, q2, q3, q4⟩, ⟨q5, q6, q7, q8⟩⟩ := h; first | contradiction | exact absurd (i32_nle c6) q8), tn_nI (show jk < 2 ^ 31 by omega), tn_nI (show ju < 2 ^ 31 by omega)]; exact hP) | exact hP) hS dX5_copy_149
              ·
                exact absurd c7 (by decide)
            ·
              refine lv_iload hx hb dX5_copy_74 (lv_at hl 4 rfl) ?_
              refine lv_if_lt (tgt := 109) hx hb dX5_copy_76 (by decide) (fun c8 => ?_) (fun c8 => ?_)
              ·
                refine lv_iconst (v := nI 0) hx hb dX5_copy_109 (by decide) ?_
                refine lv_istore (lv' := [(6, .int (nI 0)), (0, .ref o), (1, .int (nI jk)), (2, .int i), (3, .int (nI ju)), (4, .int j), (5, .int n)]) hx hb dX5_copy_110 hl (by decide) rfl (fun ls hl => ?_)
                refine lv_iload hx hb dX5_copy_112 (lv_at hl 0 rfl) ?_
                refine iz_eq (tgt := 144) hx hb (by decide) dX5_copy_114 (by decide) (fun c9 => ?_) (fun c9 => ?_)
                ·
                  refine lv_aload_n hx hb dX5_copy_144 rfl (lv_at hl 1 rfl) ?_
                  refine lv_iconst (v := nI 3) hx hb dX5_copy_145 (by decide) ?_
                  refine wtV (As := [.int (nI 3)]) (rest := []) (ci := 5) (q0 := 0) hE (kX5_fails l G o (nI 0) ftr aso asl ace M B ape aki abo at_ rM rB arp ark arb fb fto R awh awn awm awk amo amu (nI 3) ) (cwV 1 hts gX5_copy_X5_fails rfl rfl rfl (by decide +kernel) ⟨Nat.le_of_ble_eq_true rfl, Nat.le_of_ble_eq_true rfl⟩) hP hK hD hS [0] (by decide) rfl (Eq.trans (b := [o]) rfl rfl) (W1 := [(o, .inr (5, [.int (nI 3), .int ftr, .ref aso, .ref asl, .ref ace, .int (nI M), .int (nI B), .ref ape, .ref aki, .ref abo, .int at_, .int rM, .int rB, .ref arp, .ref ark, .ref arb, .int fb, .int fto, .int (nI R), .ref awh, .ref awn, .ref awm, .ref awk, .ref amo, .ref amu])), (aso, aI G 4 SO), (asl, aI G 4 SL), (ace, aI G 240 CE)]) rfl rfl rfl rfl hl.1 rfl (Nat.le_of_ble_eq_true rfl) dX5_copy_146 ⟨Nat.zero_le _, Nat.zero_le _⟩ (fun H locs hP hD hS => ?_)
                  refine W.eq (g2 := F0 m 149 ls [.int ((-10) - (nI 3))]) rfl ?_
                  exact hret _ _ _ _ _ (by first | with_reducible rfl | (simp only [s_copy, f_copy, cpG, iF_t c1, iF_t c2, iF_f c3, iF_f c4, iF_t c5, iF_f c6, iF_t (i32_nlt c6), iF_t c8, iF_f (i32_lt c8), iF_f (show ¬ (hc L i n ∧ hc L2 j n) from fun h => by obtain ⟨⟨q1, q2, q3, q4⟩, ⟨q5, q6, q7, q8⟩⟩ := h; first | contradiction | exact absurd (i32_nle c8) q8), tn_nI (show jk < 2 ^ 31 by omega), tn_nI (show ju < 2 ^ 31 by omega)]; done) | contradiction) (by first | with_reducible exact hP | (simp only [s_copy, f_copy, cpG, iF_t c1, iF_t c2, iF_f c3, iF_f c4, iF_t c5, iF_f c6, iF_t (i32_nlt c6), iF_t c8, iF_f (i32_lt c8), iF_f (show ¬ (hc L i n ∧ hc L2 j n) from fun h => by obtain ⟨⟨q1, q2, q3, q4⟩, ⟨q5, q6, q7, q8⟩⟩ := h; first | contradiction | exact absurd (i32_nle c8) q8), tn_nI (show jk < 2 ^ 31 by omega), tn_nI (show ju < 2 ^ 31 by omega)]; with_reducible exact hP) | contradiction | (simp only [s_copy, f_copy, cpG, iF_t c1, iF_t c2, iF_f c3, iF_f c4, iF_t c5, iF_f c6, iF_t (i32_nlt c6), iF_t c8, iF_f (i32_lt c8), iF_f (show ¬ (hc L i n ∧ hc L2 j n) from fun h => by obtain ⟨⟨q1, q2, q3, q4⟩, ⟨q5, q6, q7, q8⟩⟩ := h; first | contradiction | exact absurd (i32_nle c8) q8), tn_nI (show jk < 2 ^ 31 by omega), tn_nI (show ju < 2 ^ 31 by omega)]; exact hP) | exact hP) hS dX5_copy_149
                ·
                  exact absurd c9 (by decide)
              ·
                refine lv_iload hx hb dX5_copy_79 (lv_at hl 5 rfl) ?_
                refine lv_if_lt (tgt := 109) hx hb dX5_copy_81 (by decide) (fun c10 => ?_) (fun c10 => ?_)
                ·
                  refine lv_iconst (v := nI 0) hx hb dX5_copy_109 (by decide) ?_
                  refine lv_istore (lv' := [(6, .int (nI 0)), (0, .ref o), (1, .int (nI jk)), (2, .int i), (3, .int (nI ju)), (4, .int j), (5, .int n)]) hx hb dX5_copy_110 hl (by decide) rfl (fun ls hl => ?_)
                  refine lv_iload hx hb dX5_copy_112 (lv_at hl 0 rfl) ?_
                  refine iz_eq (tgt := 144) hx hb (by decide) dX5_copy_114 (by decide) (fun c11 => ?_) (fun c11 => ?_)
                  ·
                    refine lv_aload_n hx hb dX5_copy_144 rfl (lv_at hl 1 rfl) ?_
                    refine lv_iconst (v := nI 3) hx hb dX5_copy_145 (by decide) ?_
                    refine wtV (As := [.int (nI 3)]) (rest := []) (ci := 5) (q0 := 0) hE (kX5_fails l G o (nI 0) ftr aso asl ace M B ape aki abo at_ rM rB arp ark arb fb fto R awh awn awm awk amo amu (nI 3) ) (cwV 1 hts gX5_copy_X5_fails rfl rfl rfl (by decide +kernel) ⟨Nat.le_of_ble_eq_true rfl, Nat.le_of_ble_eq_true rfl⟩) hP hK hD hS [0] (by decide) rfl (Eq.trans (b := [o]) rfl rfl) (W1 := [(o, .inr (5, [.int (nI 3), .int ftr, .ref aso, .ref asl, .ref ace, .int (nI M), .int (nI B), .ref ape, .ref aki, .ref abo, .int at_, .int rM, .int rB, .ref arp, .ref ark, .ref arb, .int fb, .int fto, .int (nI R), .ref awh, .ref awn, .ref awm, .ref awk, .ref amo, .ref amu])), (aso, aI G 4 SO), (asl, aI G 4 SL), (ace, aI G 240 CE)]) rfl rfl rfl rfl hl.1 rfl (Nat.le_of_ble_eq_true rfl) dX5_copy_146 ⟨Nat.zero_le _, Nat.zero_le _⟩ (fun H locs hP hD hS => ?_)
                    refine W.eq (g2 := F0 m 149 ls [.int ((-10) - (nI 3))]) rfl ?_
                    exact hret _ _ _ _ _ (by first | with_reducible rfl | (simp only [s_copy, f_copy, cpG, iF_t c1, iF_t c2, iF_f c3, iF_f c4, iF_t c5, iF_f c6, iF_t (i32_nlt c6), iF_f c8, iF_t (i32_nlt c8), iF_t c10, iF_f (i32_lt c10), iF_f (show ¬ (hc L i n ∧ hc L2 j n) from fun h => by obtain ⟨⟨q1, q2, q3, q4⟩, ⟨q5, q6, q7, q8⟩⟩ := h; first | contradiction | exact absurd (i32_nle c10) q8), tn_nI (show jk < 2 ^ 31 by omega), tn_nI (show ju < 2 ^ 31 by omega)]; done) | contradiction) (by first | with_reducible exact hP | (simp only [s_copy, f_copy, cpG, iF_t c1, iF_t c2, iF_f c3, iF_f c4, iF_t c5, iF_f c6, iF_t (i32_nlt c6), iF_f c8, iF_t (i32_nlt c8), iF_t c10, iF_f (i32_lt c10), iF_f (show ¬ (hc L i n ∧ hc L2 j n) from fun h => by obtain ⟨⟨q1, q2, q3, q4⟩, ⟨q5, q6, q7, q8⟩⟩ := h; first | contradiction | exact absurd (i32_nle c10) q8), tn_nI (show jk < 2 ^ 31 by omega), tn_nI (show ju < 2 ^ 31 by omega)]; with_reducible exact hP) | contradiction | (simp only [s_copy, f_copy, cpG, iF_t c1, iF_t c2, iF_f c3, iF_f c4, iF_t c5, iF_f c6, iF_t (i32_nlt c6), iF_f c8, iF_t (i32_nlt c8), iF_t c10, iF_f (i32_lt c10), iF_f (show ¬ (hc L i n ∧ hc L2 j n) from fun h => by obtain ⟨⟨q1, q2, q3, q4⟩, ⟨q5, q6, q7, q8⟩⟩ := h; first | contradiction | exact absurd (i32_nle c10) q8), tn_nI (show jk < 2 ^ 31 by omega), tn_nI (show ju < 2 ^ 31 by omega)]; exact hP) | exact hP) hS dX5_copy_149
                  ·
                    exact absurd c11 (by decide)
                ·
                  refine lv_iload_n hx hb dX5_copy_84 rfl (lv_at hl 2 rfl) ?_
                  refine lv_aload_n hx hb dX5_copy_85 rfl (lv_at hl 0 rfl) ?_
                  refine g_get (v := .ref asl) hx hb hts ixX5_copy_X5 hown hK hP 0 rfl rfl 3 (by decide) lkX5_copy_13 rfl dX5_copy_86 ?_
                  refine lv_iload_n hx hb dX5_copy_89 rfl (lv_at hl 1 rfl) ?_
                  refine n_ald hx hb hK hP 2 rfl (k := jk) (by omega) (by decide) dX5_copy_90 ?_
                  refine lv_tope (show SL jk = nI L from hlk jk (by omega) rfl) ?_
                  refine lv_icmp_gt (tgt := 109) hx hb dX5_copy_91 (by decide) (fun c12 => ?_) (fun c12 => ?_)
                  ·
                    refine lv_iconst (v := nI 0) hx hb dX5_copy_109 (by decide) ?_
                    refine lv_istore (lv' := [(6, .int (nI 0)), (0, .ref o), (1, .int (nI jk)), (2, .int i), (3, .int (nI ju)), (4, .int j), (5, .int n)]) hx hb dX5_copy_110 hl (by decide) rfl (fun ls hl => ?_)
                    refine lv_iload hx hb dX5_copy_112 (lv_at hl 0 rfl) ?_
                    refine iz_eq (tgt := 144) hx hb (by decide) dX5_copy_114 (by decide) (fun c13 => ?_) (fun c13 => ?_)
                    ·
                      refine lv_aload_n hx hb dX5_copy_144 rfl (lv_at hl 1 rfl) ?_
                      refine lv_iconst (v := nI 3) hx hb dX5_copy_145 (by decide) ?_
                      refine wtV (As := [.int (nI 3)]) (rest := []) (ci := 5) (q0 := 0) hE (kX5_fails l G o (nI 0) ftr aso asl ace M B ape aki abo at_ rM rB arp ark arb fb fto R awh awn awm awk amo amu (nI 3) ) (cwV 1 hts gX5_copy_X5_fails rfl rfl rfl (by decide +kernel) ⟨Nat.le_of_ble_eq_true rfl, Nat.le_of_ble_eq_true rfl⟩) hP hK hD hS [0] (by decide) rfl (Eq.trans (b := [o]) rfl rfl) (W1 := [(o, .inr (5, [.int (nI 3), .int ftr, .ref aso, .ref asl, .ref ace, .int (nI M), .int (nI B), .ref ape, .ref aki, .ref abo, .int at_, .int rM, .int rB, .ref arp, .ref ark, .ref arb, .int fb, .int fto, .int (nI R), .ref awh, .ref awn, .ref awm, .ref awk, .ref amo, .ref amu])), (aso, aI G 4 SO), (asl, aI G 4 SL), (ace, aI G 240 CE)]) rfl rfl rfl rfl hl.1 rfl (Nat.le_of_ble_eq_true rfl) dX5_copy_146 ⟨Nat.zero_le _, Nat.zero_le _⟩ (fun H locs hP hD hS => ?_)
                      refine W.eq (g2 := F0 m 149 ls [.int ((-10) - (nI 3))]) rfl ?_
                      exact hret _ _ _ _ _ (by first | with_reducible rfl | (simp only [s_copy, f_copy, cpG, iF_t c1, iF_t c2, iF_f c3, iF_f c4, iF_t c5, iF_f c6, iF_t (i32_nlt c6), iF_f c8, iF_t (i32_nlt c8), iF_f c10, iF_t (i32_nlt c10), iF_t c12, iF_f (i32_lt c12), iF_f (show ¬ (hc L i n ∧ hc L2 j n) from fun h => by obtain ⟨⟨q1, q2, q3, q4⟩, ⟨q5, q6, q7, q8⟩⟩ := h; first | contradiction | exact absurd (i32_nle c12) q8), tn_nI (show jk < 2 ^ 31 by omega), tn_nI (show ju < 2 ^ 31 by omega)]; done) | contradiction) (by first | with_reducible exact hP | (simp only [s_copy, f_copy, cpG, iF_t c1, iF_t c2, iF_f c3, iF_f c4, iF_t c5, iF_f c6, iF_t (i32_nlt c6), iF_f c8, iF_t (i32_nlt c8), iF_f c10, iF_t (i32_nlt c10), iF_t c12, iF_f (i32_lt c12), iF_f (show ¬ (hc L i n ∧ hc L2 j n) from fun h => by obtain ⟨⟨q1, q2, q3, q4⟩, ⟨q5, q6, q7, q8⟩⟩ := h; first | contradiction | exact absurd (i32_nle c12) q8), tn_nI (show jk < 2 ^ 31 by omega), tn_nI (show ju < 2 ^ 31 by omega)]; with_reducible exact hP) | contradiction | (simp only [s_copy, f_copy, cpG, iF_t c1, iF_t c2, iF_f c3, iF_f c4, iF_t c5, iF_f c6, iF_t (i32_nlt c6), iF_f c8, iF_t (i32_nlt c8), iF_f c10, iF_t (i32_nlt c10), iF_t c12, iF_f (i32_lt c12), iF_f (show ¬ (hc L i n ∧ hc L2 j n) from fun h => by obtain ⟨⟨q1, q2, q3, q4⟩, ⟨q5, q6, q7, q8⟩⟩ := h; first | contradiction | exact absurd (i32_nle c12) q8), tn_nI (show jk < 2 ^ 31 by omega), tn_nI (show ju < 2 ^ 31 by omega)]; exact hP) | exact hP) hS dX5_copy_149
                    ·
                      exact absurd c13 (by decide)
                  ·
                    refine lv_iload hx hb dX5_copy_94 (lv_at hl 4 rfl) ?_
                    refine lv_aload_n hx hb dX5_copy_96 rfl (lv_at hl 0 rfl) ?_
                    refine g_get (v := .ref asl) hx hb hts ixX5_copy_X5 hown hK hP 0 rfl rfl 3 (by decide) lkX5_copy_13 rfl dX5_copy_97 ?_
                    refine lv_iload_n hx hb dX5_copy_100 rfl (lv_at hl 3 rfl) ?_
                    refine n_ald hx hb hK hP 2 rfl (k := ju) (by omega) (by decide) dX5_copy_101 ?_
                    refine lv_tope (show SL ju = nI L2 from hl2 ju (by omega) rfl) ?_
                    refine lv_icmp_gt (tgt := 109) hx hb dX5_copy_102 (by decide) (fun c14 => ?_) (fun c14 => ?_)
                    ·
                      refine lv_iconst (v := nI 0) hx hb dX5_copy_109 (by decide) ?_
                      refine lv_istore (lv' := [(6, .int (nI 0)), (0, .ref o), (1, .int (nI jk)), (2, .int i), (3, .int (nI ju)), (4, .int j), (5, .int n)]) hx hb dX5_copy_110 hl (by decide) rfl (fun ls hl => ?_)
                      refine lv_iload hx hb dX5_copy_112 (lv_at hl 0 rfl) ?_
                      refine iz_eq (tgt := 144) hx hb (by decide) dX5_copy_114 (by decide) (fun c15 => ?_) (fun c15 => ?_)
                      ·
                        refine lv_aload_n hx hb dX5_copy_144 rfl (lv_at hl 1 rfl) ?_
                        refine lv_iconst (v := nI 3) hx hb dX5_copy_145 (by decide) ?_
                        refine wtV (As := [.int (nI 3)]) (rest := []) (ci := 5) (q0 := 0) hE (kX5_fails l G o (nI 0) ftr aso asl ace M B ape aki abo at_ rM rB arp ark arb fb fto R awh awn awm awk amo amu (nI 3) ) (cwV 1 hts gX5_copy_X5_fails rfl rfl rfl (by decide +kernel) ⟨Nat.le_of_ble_eq_true rfl, Nat.le_of_ble_eq_true rfl⟩) hP hK hD hS [0] (by decide) rfl (Eq.trans (b := [o]) rfl rfl) (W1 := [(o, .inr (5, [.int (nI 3), .int ftr, .ref aso, .ref asl, .ref ace, .int (nI M), .int (nI B), .ref ape, .ref aki, .ref abo, .int at_, .int rM, .int rB, .ref arp, .ref ark, .ref arb, .int fb, .int fto, .int (nI R), .ref awh, .ref awn, .ref awm, .ref awk, .ref amo, .ref amu])), (aso, aI G 4 SO), (asl, aI G 4 SL), (ace, aI G 240 CE)]) rfl rfl rfl rfl hl.1 rfl (Nat.le_of_ble_eq_true rfl) dX5_copy_146 ⟨Nat.zero_le _, Nat.zero_le _⟩ (fun H locs hP hD hS => ?_)
                        refine W.eq (g2 := F0 m 149 ls [.int ((-10) - (nI 3))]) rfl ?_
                        exact hret _ _ _ _ _ (by first | with_reducible rfl | (simp only [s_copy, f_copy, cpG, iF_t c1, iF_t c2, iF_f c3, iF_f c4, iF_t c5, iF_f c6, iF_t (i32_nlt c6), iF_f c8, iF_t (i32_nlt c8), iF_f c10, iF_t (i32_nlt c10), iF_f c12, iF_t (i32_nlt c12), iF_t c14, iF_f (i32_lt c14), iF_f (show ¬ (hc L i n ∧ hc L2 j n) from fun h => by obtain ⟨⟨q1, q2, q3, q4⟩, ⟨q5, q6, q7, q8⟩⟩ := h; first | contradiction | exact absurd (i32_nle c14) q8), tn_nI (show jk < 2 ^ 31 by omega), tn_nI (show ju < 2 ^ 31 by omega)]; done) | contradiction) (by first | with_reducible exact hP | (simp only [s_copy, f_copy, cpG, iF_t c1, iF_t c2, iF_f c3, iF_f c4, iF_t c5, iF_f c6, iF_t (i32_nlt c6), iF_f c8, iF_t (i32_nlt c8), iF_f c10, iF_t (i32_nlt c10), iF_f c12, iF_t (i32_nlt c12), iF_t c14, iF_f (i32_lt c14), iF_f (show ¬ (hc L i n ∧ hc L2 j n) from fun h => by obtain ⟨⟨q1, q2, q3, q4⟩, ⟨q5, q6, q7, q8⟩⟩ := h; first | contradiction | exact absurd (i32_nle c14) q8), tn_nI (show jk < 2 ^ 31 by omega), tn_nI (show ju < 2 ^ 31 by omega)]; with_reducible exact hP) | contradiction | (simp only [s_copy, f_copy, cpG, iF_t c1, iF_t c2, iF_f c3, iF_f c4, iF_t c5, iF_f c6, iF_t (i32_nlt c6), iF_f c8, iF_t (i32_nlt c8), iF_f c10, iF_t (i32_nlt c10), iF_f c12, iF_t (i32_nlt c12), iF_t c14, iF_f (i32_lt c14), iF_f (show ¬ (hc L i n ∧ hc L2 j n) from fun h => by obtain ⟨⟨q1, q2, q3, q4⟩, ⟨q5, q6, q7, q8⟩⟩ := h; first | contradiction | exact absurd (i32_nle c14) q8), tn_nI (show jk < 2 ^ 31 by omega), tn_nI (show ju < 2 ^ 31 by omega)]; exact hP) | exact hP) hS dX5_copy_149
                      ·
                        exact absurd c15 (by decide)
                    ·
                      refine lv_iconst (v := nI 1) hx hb dX5_copy_105 (by decide) ?_
                      refine lv_goto (tgt := 110) hx hb dX5_copy_106 (by decide) ?_
                      refine lv_istore (lv' := [(6, .int (nI 1)), (0, .ref o), (1, .int (nI jk)), (2, .int i), (3, .int (nI ju)), (4, .int j), (5, .int n)]) hx hb dX5_copy_110 hl (by decide) rfl (fun ls hl => ?_)
                      refine lv_iload hx hb dX5_copy_112 (lv_at hl 0 rfl) ?_
                      refine iz_eq (tgt := 144) hx hb (by decide) dX5_copy_114 (by decide) (fun c16 => ?_) (fun c16 => ?_)
                      ·
                        exact absurd c16 (by decide)
                      ·
                        refine lv_iload hx hb dX5_copy_117 (lv_at hl 6 rfl) ?_
                        refine lv_aload_n hx hb dX5_copy_119 rfl (lv_at hl 1 rfl) ?_
                        refine g_get (v := .ref asl) hx hb hts ixX5_copy_X5 hown hK hP 0 rfl rfl 3 (by decide) lkX5_copy_13 rfl dX5_copy_120 ?_
                        refine lv_iload_n hx hb dX5_copy_123 rfl (lv_at hl 2 rfl) ?_
                        refine n_ald hx hb hK hP 2 rfl (k := jk) (by omega) (by decide) dX5_copy_124 ?_
                        refine lv_tope (show SL jk = nI L from hlk jk (by omega) rfl) ?_
                        refine lv_iload_n hx hb dX5_copy_125 rfl (lv_at hl 3 rfl) ?_
                        refine lv_isub hx hb dX5_copy_126 ?_
                        refine lv_icmp_gt (tgt := 144) hx hb dX5_copy_127 (by decide) (fun c17 => ?_) (fun c17 => ?_)
                        ·
                          refine lv_aload_n hx hb dX5_copy_144 rfl (lv_at hl 1 rfl) ?_
                          refine lv_iconst (v := nI 3) hx hb dX5_copy_145 (by decide) ?_
                          refine wtV (As := [.int (nI 3)]) (rest := []) (ci := 5) (q0 := 0) hE (kX5_fails l G o (nI 0) ftr aso asl ace M B ape aki abo at_ rM rB arp ark arb fb fto R awh awn awm awk amo amu (nI 3) ) (cwV 1 hts gX5_copy_X5_fails rfl rfl rfl (by decide +kernel) ⟨Nat.le_of_ble_eq_true rfl, Nat.le_of_ble_eq_true rfl⟩) hP hK hD hS [0] (by decide) rfl (Eq.trans (b := [o]) rfl rfl) (W1 := [(o, .inr (5, [.int (nI 3), .int ftr, .ref aso, .ref asl, .ref ace, .int (nI M), .int (nI B), .ref ape, .ref aki, .ref abo, .int at_, .int rM, .int rB, .ref arp, .ref ark, .ref arb, .int fb, .int fto, .int (nI R), .ref awh, .ref awn, .ref awm, .ref awk, .ref amo, .ref amu])), (aso, aI G 4 SO), (asl, aI G 4 SL), (ace, aI G 240 CE)]) rfl rfl rfl rfl hl.1 rfl (Nat.le_of_ble_eq_true rfl) dX5_copy_146 ⟨Nat.zero_le _, Nat.zero_le _⟩ (fun H locs hP hD hS => ?_)
                          refine W.eq (g2 := F0 m 149 ls [.int ((-10) - (nI 3))]) rfl ?_
                          exact hret _ _ _ _ _ (by first | with_reducible rfl | (simp only [s_copy, f_copy, cpG, iF_t c1, iF_t c2, iF_f c3, iF_f c4, iF_t c5, iF_f c6, iF_t (i32_nlt c6), iF_f c8, iF_t (i32_nlt c8), iF_f c10, iF_t (i32_nlt c10), iF_f c12, iF_t (i32_nlt c12), iF_f c14, iF_t (i32_nlt c14), iF_t c17, iF_f (i32_lt c17), iF_f (show ¬ (hc L i n ∧ hc L2 j n) from fun h => by obtain ⟨⟨q1, q2, q3, q4⟩, ⟨q5, q6, q7, q8⟩⟩ := h; first | contradiction | exact absurd (i32_nle c17) q8), tn_nI (show jk < 2 ^ 31 by omega), tn_nI (show ju < 2 ^ 31 by omega)]; done) | contradiction) (by first | with_reducible exact hP | (simp only [s_copy, f_copy, cpG, iF_t c1, iF_t c2, iF_f c3, iF_f c4, iF_t c5, iF_f c6, iF_t (i32_nlt c6), iF_f c8, iF_t (i32_nlt c8), iF_f c10, iF_t (i32_nlt c10), iF_f c12, iF_t (i32_nlt c12), iF_f c14, iF_t (i32_nlt c14), iF_t c17, iF_f (i32_lt c17), iF_f (show ¬ (hc L i n ∧ hc L2 j n) from fun h => by obtain ⟨⟨q1, q2, q3, q4⟩, ⟨q5, q6, q7, q8⟩⟩ := h; first | contradiction | exact absurd (i32_nle c17) q8), tn_nI (show jk < 2 ^ 31 by omega), tn_nI (show ju < 2 ^ 31 by omega)]; with_reducible exact hP) | contradiction | (simp only [s_copy, f_copy, cpG, iF_t c1, iF_t c2, iF_f c3, iF_f c4, iF_t c5, iF_f c6, iF_t (i32_nlt c6), iF_f c8, iF_t (i32_nlt c8), iF_f c10, iF_t (i32_nlt c10), iF_f c12, iF_t (i32_nlt c12), iF_f c14, iF_t (i32_nlt c14), iF_t c17, iF_f (i32_lt c17), iF_f (show ¬ (hc L i n ∧ hc L2 j n) from fun h => by obtain ⟨⟨q1, q2, q3, q4⟩, ⟨q5, q6, q7, q8⟩⟩ := h; first | contradiction | exact absurd (i32_nle c17) q8), tn_nI (show jk < 2 ^ 31 by omega), tn_nI (show ju < 2 ^ 31 by omega)]; exact hP) | exact hP) hS dX5_copy_149
                        ·
                          refine lv_iload hx hb dX5_copy_130 (lv_at hl 6 rfl) ?_
                          refine lv_aload_n hx hb dX5_copy_132 rfl (lv_at hl 1 rfl) ?_
                          refine g_get (v := .ref asl) hx hb hts ixX5_copy_X5 hown hK hP 0 rfl rfl 3 (by decide) lkX5_copy_13 rfl dX5_copy_133 ?_
                          refine lv_iload_n hx hb dX5_copy_136 rfl (lv_at hl 4 rfl) ?_
                          refine n_ald hx hb hK hP 2 rfl (k := ju) (by omega) (by decide) dX5_copy_137 ?_
                          refine lv_tope (show SL ju = nI L2 from hl2 ju (by omega) rfl) ?_
                          refine lv_iload hx hb dX5_copy_138 (lv_at hl 5 rfl) ?_
                          refine lv_isub hx hb dX5_copy_140 ?_
                          refine lv_icmp_le (tgt := 150) hx hb dX5_copy_141 (by decide) (fun c18 => ?_) (fun c18 => ?_)
                          ·
                            have h99 : hc L i n ∧ hc L2 j n := ⟨⟨c6, c12, c10, c17⟩, ⟨c8, c14, c10, i32_le c18⟩⟩
                            obtain ⟨ji, jn, rfl, rfl, hin9⟩ := hc_of h99.1 (by omega)
                            obtain ⟨jj, jn2, rfl, en2, hjn9⟩ := hc_of h99.2 (by omega)
                            have hn29 : jn = jn2 := (nI_eq (by omega) (by omega)).mp en2
                            refine lv_iload_n hx hb dX5_copy_150 rfl (lv_at hl 3 rfl) ?_
                            refine lv_iload hx hb dX5_copy_151 (lv_at hl 5 rfl) ?_
                            refine ic_ge (tgt := 160) hx hb (by omega) (by omega) dX5_copy_153 (by decide) (fun c19 => ?_) (fun c19 => ?_)
                            ·
                              refine lv_iconst (v := nI 0) hx hb dX5_copy_160 (by decide) ?_
                              refine lv_istore (lv' := [(7, .int (nI 0)), (6, .int (nI 1)), (0, .ref o), (1, .int (nI jk)), (2, .int (nI ji)), (3, .int (nI ju)), (4, .int (nI jj)), (5, .int (nI jn))]) hx hb dX5_copy_161 hl (by decide) rfl (fun ls hl => ?_)
                              refine lv_iconst (v := nI 0) hx hb dX5_copy_163 (by decide) ?_
                              refine lv_istore (lv' := [(8, .int (nI 0)), (7, .int (nI 0)), (6, .int (nI 1)), (0, .ref o), (1, .int (nI jk)), (2, .int (nI ji)), (3, .int (nI ju)), (4, .int (nI jj)), (5, .int (nI jn))]) hx hb dX5_copy_164 hl (by decide) rfl (fun ls hl => ?_)
                              have loop1 : ∀ (d q : Nat) (H : Heap) (locs : List Loc) (ls : Array Slot), jn < q + d → q ≤ jn → va_P G.1 vwCl [(o, .inr (5, [.int (nI 0), .int ftr, .ref aso, .ref asl, .ref ace, .int (nI M), .int (nI B), .ref ape, .ref aki, .ref abo, .int at_, .int rM, .int rB, .ref arp, .ref ark, .ref arb, .int fb, .int fto, .int (nI R), .ref awh, .ref awn, .ref awm, .ref awk, .ref amo, .ref amu])), (aso, aI G 4 SO), (asl, aI G 4 SL), (ace, aI G 240 (va_cpy CE CE ((60 * jk) + ji) ((60 * ju) + jj) q))] H → va_D A [(o, .inr (5, [.int (nI 0), .int ftr, .ref aso, .ref asl, .ref ace, .int (nI M), .int (nI B), .ref ape, .ref aki, .ref abo, .int at_, .int rM, .int rB, .ref arp, .ref ark, .ref arb, .int fb, .int fto, .int (nI R), .ref awh, .ref awn, .ref awm, .ref awk, .ref amo, .ref amu])), (aso, aI G 4 SO), (asl, aI G 4 SL), (ace, aI G 240 (va_cpy CE CE ((60 * jk) + ji) ((60 * ju) + jj) q))] → va_S A s.heap H locs → lv_has ls 10 [(8, .int (nI q)), (7, .int (nI 0)), (6, .int (nI 1)), (0, .ref o), (1, .int (nI jk)), (2, .int (nI ji)), (3, .int (nI ju)), (4, .int (nI jj)), (5, .int (nI jn))] → W p l e ({ frames := 2, cells := 0, slots := 0, locals := 42 } : Room) s m ([.ref o, .int (nI jk), .int (nI ji), .int (nI ju), .int (nI jj), .int (nI jn)] : List Value).toArray below meth c H locs 0 0 Q (F0 m 166 ls []) := by
                                intro d
                                induction d with
                                | zero =>
                                  intro q H locs ls h1 h2
                                  omega
                                | succ d ih1 =>
                                  intro q H locs ls hdq hbq hP hD hS hl
                                  refine lv_iload hx hb dX5_copy_166 (lv_at hl 0 rfl) ?_
                                  refine lv_iload hx hb dX5_copy_168 (lv_at hl 8 rfl) ?_
                                  refine ic_ge (tgt := 227) hx hb (by omega) (by omega) dX5_copy_170 (by decide) (fun c20 => ?_) (fun c20 => ?_)
                                  ·
                                    obtain rfl : jn = q := by omega
                                    refine lv_iload hx hb dX5_copy_227 (lv_at hl 8 rfl) ?_
                                    exact hret _ _ _ _ _ (by first | with_reducible rfl | (simp only [s_copy, f_copy, cpG, iF_t c1, iF_t c2, iF_f c3, iF_f c4, iF_t c5, iF_f c6, iF_t (i32_nlt c6), iF_f c8, iF_t (i32_nlt c8), iF_f c10, iF_t (i32_nlt c10), iF_f c12, iF_t (i32_nlt c12), iF_f c14, iF_t (i32_nlt c14), iF_f c17, iF_t (i32_nlt c17), iF_t c18, iF_f (i32_le c18), iF_t h99, iF_f (Nat.not_lt.mpr c19), iF_f (Nat.not_lt.mpr c20), tn_nI (show jk < 2 ^ 31 by omega), tn_nI (show ju < 2 ^ 31 by omega), tn_nI (show ji < 2 ^ 31 by omega), tn_nI (show jn < 2 ^ 31 by omega), tn_nI (show jj < 2 ^ 31 by omega)]; done) | contradiction) (by simp only [s_copy, f_copy, cpG, iF_t c1, iF_t c2, iF_f c3, iF_f c4, iF_t c5, iF_f c6, iF_t (i32_nlt c6), iF_f c8, iF_t (i32_nlt c8), iF_f c10, iF_t (i32_nlt c10), iF_f c12, iF_t (i32_nlt c12), iF_f c14, iF_t (i32_nlt c14), iF_f c17, iF_t (i32_nlt c17), iF_t c18, iF_f (i32_le c18), iF_t h99, iF_f (Nat.not_lt.mpr c19), iF_f (Nat.not_lt.mpr c20), tn_nI (show jk < 2 ^ 31 by omega), tn_nI (show ju < 2 ^ 31 by omega), tn_nI (show ji < 2 ^ 31 by omega), tn_nI (show jn < 2 ^ 31 by omega), tn_nI (show jj < 2 ^ 31 by omega)]; simpa only [Nat.sub_self, Nat.add_zero] using hP) hS dX5_copy_229
                                  ·
                                    refine lv_iload hx hb dX5_copy_173 (lv_at hl 1 rfl) ?_
                                    refine iz_eq (tgt := 188) hx hb (by decide) dX5_copy_175 (by decide) (fun c21 => ?_) (fun c21 => ?_)
                                    ·
                                      refine lv_iload hx hb dX5_copy_188 (lv_at hl 0 rfl) ?_
                                      refine lv_istore (lv' := [(9, .int (nI q)), (8, .int (nI q)), (7, .int (nI 0)), (6, .int (nI 1)), (0, .ref o), (1, .int (nI jk)), (2, .int (nI ji)), (3, .int (nI ju)), (4, .int (nI jj)), (5, .int (nI jn))]) hx hb dX5_copy_190 hl (by decide) rfl (fun ls hl => ?_)
                                      refine lv_aload_n hx hb dX5_copy_192 rfl (lv_at hl 4 rfl) ?_
                                      refine g_get (v := .ref ace) hx hb hts ixX5_copy_X5 hown hK hP 0 rfl rfl 4 (by decide) lkX5_copy_16 rfl dX5_copy_193 ?_
                                      refine lv_bipush (v := nI 60) hx hb dX5_copy_196 (by decide) ?_
                                      refine lv_iload_n hx hb dX5_copy_198 rfl (lv_at hl 7 rfl) ?_
                                      refine lv_imul hx hb dX5_copy_199 ?_
                                      refine lv_tope (show (nI 60) * (nI ju) = nI (60 * ju) from pk_mul _ _) ?_
                                      refine lv_iload hx hb dX5_copy_200 (lv_at hl 8 rfl) ?_
                                      refine lv_iadd hx hb dX5_copy_202 ?_
                                      refine lv_tope (show (nI (60 * ju)) + (nI jj) = nI ((60 * ju) + jj) from nI_add _ _) ?_
                                      refine lv_iload hx hb dX5_copy_203 (lv_at hl 0 rfl) ?_
                                      refine lv_iadd hx hb dX5_copy_205 ?_
                                      refine lv_tope (show (nI ((60 * ju) + jj)) + (nI q) = nI (((60 * ju) + jj) + q) from nI_add _ _) ?_
                                      refine lv_aload_n hx hb dX5_copy_206 rfl (lv_at hl 4 rfl) ?_
                                      refine g_get (v := .ref ace) hx hb hts ixX5_copy_X5 hown hK hP 0 rfl rfl 4 (by decide) lkX5_copy_16 rfl dX5_copy_207 ?_
                                      refine lv_bipush (v := nI 60) hx hb dX5_copy_210 (by decide) ?_
                                      refine lv_iload_n hx hb dX5_copy_212 rfl (lv_at hl 5 rfl) ?_
                                      refine lv_imul hx hb dX5_copy_213 ?_
                                      refine lv_tope (show (nI 60) * (nI jk) = nI (60 * jk) from pk_mul _ _) ?_
                                      refine lv_iload_n hx hb dX5_copy_214 rfl (lv_at hl 6 rfl) ?_
                                      refine lv_iadd hx hb dX5_copy_215 ?_
                                      refine lv_tope (show (nI (60 * jk)) + (nI ji) = nI ((60 * jk) + ji) from nI_add _ _) ?_
                                      refine lv_iload hx hb dX5_copy_216 (lv_at hl 0 rfl) ?_
                                      refine lv_iadd hx hb dX5_copy_218 ?_
                                      refine lv_tope (show (nI ((60 * jk) + ji)) + (nI q) = nI (((60 * jk) + ji) + q) from nI_add _ _) ?_
                                      refine n_ald hx hb hK hP 3 rfl (k := ((60 * jk) + ji) + q) (by omega) (by decide) dX5_copy_219 ?_
                                      refine n_ast hx hb hK hP hD hS 3 rfl (k := ((60 * ju) + jj) + q) (by omega) (by decide) dX5_copy_220 (fun H locs hP hD hS => ?_)
                                      have hP : va_P G.1 vwCl [(o, .inr (5, [.int (nI 0), .int ftr, .ref aso, .ref asl, .ref ace, .int (nI M), .int (nI B), .ref ape, .ref aki, .ref abo, .int at_, .int rM, .int rB, .ref arp, .ref ark, .ref arb, .int fb, .int fto, .int (nI R), .ref awh, .ref awn, .ref awm, .ref awk, .ref amo, .ref amu])), (aso, aI G 4 SO), (asl, aI G 4 SL), (ace, aI G 240 (upd (va_cpy CE CE ((60 * jk) + ji) ((60 * ju) + jj) q) (((60 * ju) + jj) + q) ((va_cpy CE CE ((60 * jk) + ji) ((60 * ju) + jj) q) (((60 * jk) + ji) + q))))] H := hP
                                      have hD : va_D A [(o, .inr (5, [.int (nI 0), .int ftr, .ref aso, .ref asl, .ref ace, .int (nI M), .int (nI B), .ref ape, .ref aki, .ref abo, .int at_, .int rM, .int rB, .ref arp, .ref ark, .ref arb, .int fb, .int fto, .int (nI R), .ref awh, .ref awn, .ref awm, .ref awk, .ref amo, .ref amu])), (aso, aI G 4 SO), (asl, aI G 4 SL), (ace, aI G 240 (upd (va_cpy CE CE ((60 * jk) + ji) ((60 * ju) + jj) q) (((60 * ju) + jj) + q) ((va_cpy CE CE ((60 * jk) + ji) ((60 * ju) + jj) q) (((60 * jk) + ji) + q))))] := hD
                                      refine lv_iinc (v := nI (q + 1)) (lv' := [(8, .int (nI (q + 1))), (9, .int (nI q)), (7, .int (nI 0)), (6, .int (nI 1)), (0, .ref o), (1, .int (nI jk)), (2, .int (nI ji)), (3, .int (nI ju)), (4, .int (nI jj)), (5, .int (nI jn))]) hx hb dX5_copy_221 hl (k := 1) rfl (show nI q + Int32.ofInt 1 = nI (q + 1) from nI_add _ 1) (by decide) rfl (fun ls hl => ?_)
                                      refine lv_goto (tgt := 166) hx hb dX5_copy_224 (by decide) ?_
                                      have hP22 : va_P G.1 vwCl [(o, .inr (5, [.int (nI 0), .int ftr, .ref aso, .ref asl, .ref ace, .int (nI M), .int (nI B), .ref ape, .ref aki, .ref abo, .int at_, .int rM, .int rB, .ref arp, .ref ark, .ref arb, .int fb, .int fto, .int (nI R), .ref awh, .ref awn, .ref awm, .ref awk, .ref amo, .ref amu])), (aso, aI G 4 SO), (asl, aI G 4 SL), (ace, aI G 240 (va_cpy CE CE ((60 * jk) + ji) ((60 * ju) + jj) (q + 1)))] H := by
                                        rw [show (va_cpy CE CE ((60 * jk) + ji) ((60 * ju) + jj) (q + 1)) = (upd (va_cpy CE CE ((60 * jk) + ji) ((60 * ju) + jj) q) (((60 * ju) + jj) + q) ((va_cpy CE CE ((60 * jk) + ji) ((60 * ju) + jj) q) (((60 * jk) + ji) + q))) from (cp_up (by omega)).symm]
                                        exact hP
                                      have hD22 : va_D A [(o, .inr (5, [.int (nI 0), .int ftr, .ref aso, .ref asl, .ref ace, .int (nI M), .int (nI B), .ref ape, .ref aki, .ref abo, .int at_, .int rM, .int rB, .ref arp, .ref ark, .ref arb, .int fb, .int fto, .int (nI R), .ref awh, .ref awn, .ref awm, .ref awk, .ref amo, .ref amu])), (aso, aI G 4 SO), (asl, aI G 4 SL), (ace, aI G 240 (va_cpy CE CE ((60 * jk) + ji) ((60 * ju) + jj) (q + 1)))] := by
                                        rw [show (va_cpy CE CE ((60 * jk) + ji) ((60 * ju) + jj) (q + 1)) = (upd (va_cpy CE CE ((60 * jk) + ji) ((60 * ju) + jj) q) (((60 * ju) + jj) + q) ((va_cpy CE CE ((60 * jk) + ji) ((60 * ju) + jj) q) (((60 * jk) + ji) + q))) from (cp_up (by omega)).symm]
                                        exact hD
                                      exact ih1 (q + 1) H locs ls (by omega) (by omega) hP22 hD22 hS (lv_sub hl [0, 2, 3, 4, 5, 6, 7, 8, 9] rfl)
                                    ·
                                      exact absurd c21 (by decide)
                              have hP23 : va_P G.1 vwCl [(o, .inr (5, [.int (nI 0), .int ftr, .ref aso, .ref asl, .ref ace, .int (nI M), .int (nI B), .ref ape, .ref aki, .ref abo, .int at_, .int rM, .int rB, .ref arp, .ref ark, .ref arb, .int fb, .int fto, .int (nI R), .ref awh, .ref awn, .ref awm, .ref awk, .ref amo, .ref amu])), (aso, aI G 4 SO), (asl, aI G 4 SL), (ace, aI G 240 (va_cpy CE CE ((60 * jk) + ji) ((60 * ju) + jj) 0))] H := by
                                rw [show (va_cpy CE CE ((60 * jk) + ji) ((60 * ju) + jj) 0) = (CE) from cp_0]
                                exact hP
                              have hD23 : va_D A [(o, .inr (5, [.int (nI 0), .int ftr, .ref aso, .ref asl, .ref ace, .int (nI M), .int (nI B), .ref ape, .ref aki, .ref abo, .int at_, .int rM, .int rB, .ref arp, .ref ark, .ref arb, .int fb, .int fto, .int (nI R), .ref awh, .ref awn, .ref awm, .ref awk, .ref amo, .ref amu])), (aso, aI G 4 SO), (asl, aI G 4 SL), (ace, aI G 240 (va_cpy CE CE ((60 * jk) + ji) ((60 * ju) + jj) 0))] := by
                                rw [show (va_cpy CE CE ((60 * jk) + ji) ((60 * ju) + jj) 0) = (CE) from cp_0]
                                exact hD
                              exact loop1 (jn + 1) 0 H locs ls (by omega) (by omega) hP23 hD23 hS (lv_sub hl [0, 1, 2, 3, 4, 5, 6, 7, 8] rfl)
                            ·
                              refine lv_iconst (v := nI 1) hx hb dX5_copy_156 (by decide) ?_
                              refine lv_goto (tgt := 161) hx hb dX5_copy_157 (by decide) ?_
                              refine lv_istore (lv' := [(7, .int (nI 1)), (6, .int (nI 1)), (0, .ref o), (1, .int (nI jk)), (2, .int (nI ji)), (3, .int (nI ju)), (4, .int (nI jj)), (5, .int (nI jn))]) hx hb dX5_copy_161 hl (by decide) rfl (fun ls hl => ?_)
                              refine lv_iconst (v := nI 0) hx hb dX5_copy_163 (by decide) ?_
                              refine lv_istore (lv' := [(8, .int (nI 0)), (7, .int (nI 1)), (6, .int (nI 1)), (0, .ref o), (1, .int (nI jk)), (2, .int (nI ji)), (3, .int (nI ju)), (4, .int (nI jj)), (5, .int (nI jn))]) hx hb dX5_copy_164 hl (by decide) rfl (fun ls hl => ?_)
                              have loop2 : ∀ (d q : Nat) (H : Heap) (locs : List Loc) (ls : Array Slot), jn < q + d → q ≤ jn → va_P G.1 vwCl [(o, .inr (5, [.int (nI 0), .int ftr, .ref aso, .ref asl, .ref ace, .int (nI M), .int (nI B), .ref ape, .ref aki, .ref abo, .int at_, .int rM, .int rB, .ref arp, .ref ark, .ref arb, .int fb, .int fto, .int (nI R), .ref awh, .ref awn, .ref awm, .ref awk, .ref amo, .ref amu])), (aso, aI G 4 SO), (asl, aI G 4 SL), (ace, aI G 240 (va_cpy CE CE (((60 * jk) + ji) + (jn - q)) (((60 * ju) + jj) + (jn - q)) q))] H → va_D A [(o, .inr (5, [.int (nI 0), .int ftr, .ref aso, .ref asl, .ref ace, .int (nI M), .int (nI B), .ref ape, .ref aki, .ref abo, .int at_, .int rM, .int rB, .ref arp, .ref ark, .ref arb, .int fb, .int fto, .int (nI R), .ref awh, .ref awn, .ref awm, .ref awk, .ref amo, .ref amu])), (aso, aI G 4 SO), (asl, aI G 4 SL), (ace, aI G 240 (va_cpy CE CE (((60 * jk) + ji) + (jn - q)) (((60 * ju) + jj) + (jn - q)) q))] → va_S A s.heap H locs → lv_has ls 10 [(8, .int (nI q)), (7, .int (nI 1)), (6, .int (nI 1)), (0, .ref o), (1, .int (nI jk)), (2, .int (nI ji)), (3, .int (nI ju)), (4, .int (nI jj)), (5, .int (nI jn))] → W p l e ({ frames := 2, cells := 0, slots := 0, locals := 42 } : Room) s m ([.ref o, .int (nI jk), .int (nI ji), .int (nI ju), .int (nI jj), .int (nI jn)] : List Value).toArray below meth c H locs 0 0 Q (F0 m 166 ls []) := by
                                intro d
                                induction d with
                                | zero =>
                                  intro q H locs ls h1 h2
                                  omega
                                | succ d ih2 =>
                                  intro q H locs ls hdq hbq hP hD hS hl
                                  refine lv_iload hx hb dX5_copy_166 (lv_at hl 0 rfl) ?_
                                  refine lv_iload hx hb dX5_copy_168 (lv_at hl 8 rfl) ?_
                                  refine ic_ge (tgt := 227) hx hb (by omega) (by omega) dX5_copy_170 (by decide) (fun c24 => ?_) (fun c24 => ?_)
                                  ·
                                    obtain rfl : jn = q := by omega
                                    refine lv_iload hx hb dX5_copy_227 (lv_at hl 8 rfl) ?_
                                    exact hret _ _ _ _ _ (by first | with_reducible rfl | (simp only [s_copy, f_copy, cpG, iF_t c1, iF_t c2, iF_f c3, iF_f c4, iF_t c5, iF_f c6, iF_t (i32_nlt c6), iF_f c8, iF_t (i32_nlt c8), iF_f c10, iF_t (i32_nlt c10), iF_f c12, iF_t (i32_nlt c12), iF_f c14, iF_t (i32_nlt c14), iF_f c17, iF_t (i32_nlt c17), iF_t c18, iF_f (i32_le c18), iF_t h99, iF_t c19, iF_f (Nat.not_lt.mpr c24), tn_nI (show jk < 2 ^ 31 by omega), tn_nI (show ju < 2 ^ 31 by omega), tn_nI (show ji < 2 ^ 31 by omega), tn_nI (show jn < 2 ^ 31 by omega), tn_nI (show jj < 2 ^ 31 by omega)]; done) | contradiction) (by simp only [s_copy, f_copy, cpG, iF_t c1, iF_t c2, iF_f c3, iF_f c4, iF_t c5, iF_f c6, iF_t (i32_nlt c6), iF_f c8, iF_t (i32_nlt c8), iF_f c10, iF_t (i32_nlt c10), iF_f c12, iF_t (i32_nlt c12), iF_f c14, iF_t (i32_nlt c14), iF_f c17, iF_t (i32_nlt c17), iF_t c18, iF_f (i32_le c18), iF_t h99, iF_t c19, iF_f (Nat.not_lt.mpr c24), tn_nI (show jk < 2 ^ 31 by omega), tn_nI (show ju < 2 ^ 31 by omega), tn_nI (show ji < 2 ^ 31 by omega), tn_nI (show jn < 2 ^ 31 by omega), tn_nI (show jj < 2 ^ 31 by omega)]; simpa only [Nat.sub_self, Nat.add_zero] using hP) hS dX5_copy_229
                                  ·
                                    refine lv_iload hx hb dX5_copy_173 (lv_at hl 1 rfl) ?_
                                    refine iz_eq (tgt := 188) hx hb (by decide) dX5_copy_175 (by decide) (fun c25 => ?_) (fun c25 => ?_)
                                    ·
                                      exact absurd c25 (by decide)
                                    ·
                                      refine lv_iload hx hb dX5_copy_178 (lv_at hl 8 rfl) ?_
                                      refine lv_iconst (v := nI 1) hx hb dX5_copy_180 (by decide) ?_
                                      refine lv_isub hx hb dX5_copy_181 ?_
                                      refine lv_tope (show (nI jn) - (nI 1) = nI (jn - 1) from pk_sub (by omega)) ?_
                                      refine lv_iload hx hb dX5_copy_182 (lv_at hl 0 rfl) ?_
                                      refine lv_isub hx hb dX5_copy_184 ?_
                                      refine lv_tope (show (nI (jn - 1)) - (nI q) = nI ((jn - 1) - q) from pk_sub (by omega)) ?_
                                      refine lv_goto (tgt := 190) hx hb dX5_copy_185 (by decide) ?_
                                      refine lv_istore (lv' := [(9, .int (nI ((jn - 1) - q))), (8, .int (nI q)), (7, .int (nI 1)), (6, .int (nI 1)), (0, .ref o), (1, .int (nI jk)), (2, .int (nI ji)), (3, .int (nI ju)), (4, .int (nI jj)), (5, .int (nI jn))]) hx hb dX5_copy_190 hl (by decide) rfl (fun ls hl => ?_)
                                      refine lv_aload_n hx hb dX5_copy_192 rfl (lv_at hl 4 rfl) ?_
                                      refine g_get (v := .ref ace) hx hb hts ixX5_copy_X5 hown hK hP 0 rfl rfl 4 (by decide) lkX5_copy_16 rfl dX5_copy_193 ?_
                                      refine lv_bipush (v := nI 60) hx hb dX5_copy_196 (by decide) ?_
                                      refine lv_iload_n hx hb dX5_copy_198 rfl (lv_at hl 7 rfl) ?_
                                      refine lv_imul hx hb dX5_copy_199 ?_
                                      refine lv_tope (show (nI 60) * (nI ju) = nI (60 * ju) from pk_mul _ _) ?_
                                      refine lv_iload hx hb dX5_copy_200 (lv_at hl 8 rfl) ?_
                                      refine lv_iadd hx hb dX5_copy_202 ?_
                                      refine lv_tope (show (nI (60 * ju)) + (nI jj) = nI ((60 * ju) + jj) from nI_add _ _) ?_
                                      refine lv_iload hx hb dX5_copy_203 (lv_at hl 0 rfl) ?_
                                      refine lv_iadd hx hb dX5_copy_205 ?_
                                      refine lv_tope (show (nI ((60 * ju) + jj)) + (nI ((jn - 1) - q)) = nI (((60 * ju) + jj) + ((jn - 1) - q)) from nI_add _ _) ?_
                                      refine lv_aload_n hx hb dX5_copy_206 rfl (lv_at hl 4 rfl) ?_
                                      refine g_get (v := .ref ace) hx hb hts ixX5_copy_X5 hown hK hP 0 rfl rfl 4 (by decide) lkX5_copy_16 rfl dX5_copy_207 ?_
                                      refine lv_bipush (v := nI 60) hx hb dX5_copy_210 (by decide) ?_
                                      refine lv_iload_n hx hb dX5_copy_212 rfl (lv_at hl 5 rfl) ?_
                                      refine lv_imul hx hb dX5_copy_213 ?_
                                      refine lv_tope (show (nI 60) * (nI jk) = nI (60 * jk) from pk_mul _ _) ?_
                                      refine lv_iload_n hx hb dX5_copy_214 rfl (lv_at hl 6 rfl) ?_
                                      refine lv_iadd hx hb dX5_copy_215 ?_
                                      refine lv_tope (show (nI (60 * jk)) + (nI ji) = nI ((60 * jk) + ji) from nI_add _ _) ?_
                                      refine lv_iload hx hb dX5_copy_216 (lv_at hl 0 rfl) ?_
                                      refine lv_iadd hx hb dX5_copy_218 ?_
                                      refine lv_tope (show (nI ((60 * jk) + ji)) + (nI ((jn - 1) - q)) = nI (((60 * jk) + ji) + ((jn - 1) - q)) from nI_add _ _) ?_
                                      refine n_ald hx hb hK hP 3 rfl (k := ((60 * jk) + ji) + ((jn - 1) - q)) (by omega) (by decide) dX5_copy_219 ?_
                                      refine n_ast hx hb hK hP hD hS 3 rfl (k := ((60 * ju) + jj) + ((jn - 1) - q)) (by omega) (by decide) dX5_copy_220 (fun H locs hP hD hS => ?_)
                                      have hP : va_P G.1 vwCl [(o, .inr (5, [.int (nI 0), .int ftr, .ref aso, .ref asl, .ref ace, .int (nI M), .int (nI B), .ref ape, .ref aki, .ref abo, .int at_, .int rM, .int rB, .ref arp, .ref ark, .ref arb, .int fb, .int fto, .int (nI R), .ref awh, .ref awn, .ref awm, .ref awk, .ref amo, .ref amu])), (aso, aI G 4 SO), (asl, aI G 4 SL), (ace, aI G 240 (upd (va_cpy CE CE (((60 * jk) + ji) + (jn - q)) (((60 * ju) + jj) + (jn - q)) q) (((60 * ju) + jj) + ((jn - 1) - q)) ((va_cpy CE CE (((60 * jk) + ji) + (jn - q)) (((60 * ju) + jj) + (jn - q)) q) (((60 * jk) + ji) + ((jn - 1) - q)))))] H := hP
                                      have hD : va_D A [(o, .inr (5, [.int (nI 0), .int ftr, .ref aso, .ref asl, .ref ace, .int (nI M), .int (nI B), .ref ape, .ref aki, .ref abo, .int at_, .int rM, .int rB, .ref arp, .ref ark, .ref arb, .int fb, .int fto, .int (nI R), .ref awh, .ref awn, .ref awm, .ref awk, .ref amo, .ref amu])), (aso, aI G 4 SO), (asl, aI G 4 SL), (ace, aI G 240 (upd (va_cpy CE CE (((60 * jk) + ji) + (jn - q)) (((60 * ju) + jj) + (jn - q)) q) (((60 * ju) + jj) + ((jn - 1) - q)) ((va_cpy CE CE (((60 * jk) + ji) + (jn - q)) (((60 * ju) + jj) + (jn - q)) q) (((60 * jk) + ji) + ((jn - 1) - q)))))] := hD
                                      refine lv_iinc (v := nI (q + 1)) (lv' := [(8, .int (nI (q + 1))), (9, .int (nI ((jn - 1) - q))), (7, .int (nI 1)), (6, .int (nI 1)), (0, .ref o), (1, .int (nI jk)), (2, .int (nI ji)), (3, .int (nI ju)), (4, .int (nI jj)), (5, .int (nI jn))]) hx hb dX5_copy_221 hl (k := 1) rfl (show nI q + Int32.ofInt 1 = nI (q + 1) from nI_add _ 1) (by decide) rfl (fun ls hl => ?_)
                                      refine lv_goto (tgt := 166) hx hb dX5_copy_224 (by decide) ?_
                                      have hP26 : va_P G.1 vwCl [(o, .inr (5, [.int (nI 0), .int ftr, .ref aso, .ref asl, .ref ace, .int (nI M), .int (nI B), .ref ape, .ref aki, .ref abo, .int at_, .int rM, .int rB, .ref arp, .ref ark, .ref arb, .int fb, .int fto, .int (nI R), .ref awh, .ref awn, .ref awm, .ref awk, .ref amo, .ref amu])), (aso, aI G 4 SO), (asl, aI G 4 SL), (ace, aI G 240 (va_cpy CE CE (((60 * jk) + ji) + (jn - (q + 1))) (((60 * ju) + jj) + (jn - (q + 1))) (q + 1)))] H := by
                                        rw [show (va_cpy CE CE (((60 * jk) + ji) + (jn - (q + 1))) (((60 * ju) + jj) + (jn - (q + 1))) (q + 1)) = (upd (va_cpy CE CE (((60 * jk) + ji) + (jn - q)) (((60 * ju) + jj) + (jn - q)) q) (((60 * ju) + jj) + ((jn - 1) - q)) ((va_cpy CE CE (((60 * jk) + ji) + (jn - q)) (((60 * ju) + jj) + (jn - q)) q) (((60 * jk) + ji) + ((jn - 1) - q)))) from (cp_dn (by omega) (by omega)).symm]
                                        exact hP
                                      have hD26 : va_D A [(o, .inr (5, [.int (nI 0), .int ftr, .ref aso, .ref asl, .ref ace, .int (nI M), .int (nI B), .ref ape, .ref aki, .ref abo, .int at_, .int rM, .int rB, .ref arp, .ref ark, .ref arb, .int fb, .int fto, .int (nI R), .ref awh, .ref awn, .ref awm, .ref awk, .ref amo, .ref amu])), (aso, aI G 4 SO), (asl, aI G 4 SL), (ace, aI G 240 (va_cpy CE CE (((60 * jk) + ji) + (jn - (q + 1))) (((60 * ju) + jj) + (jn - (q + 1))) (q + 1)))] := by
                                        rw [show (va_cpy CE CE (((60 * jk) + ji) + (jn - (q + 1))) (((60 * ju) + jj) + (jn - (q + 1))) (q + 1)) = (upd (va_cpy CE CE (((60 * jk) + ji) + (jn - q)) (((60 * ju) + jj) + (jn - q)) q) (((60 * ju) + jj) + ((jn - 1) - q)) ((va_cpy CE CE (((60 * jk) + ji) + (jn - q)) (((60 * ju) + jj) + (jn - q)) q) (((60 * jk) + ji) + ((jn - 1) - q)))) from (cp_dn (by omega) (by omega)).symm]
                                        exact hD
                                      exact ih2 (q + 1) H locs ls (by omega) (by omega) hP26 hD26 hS (lv_sub hl [0, 2, 3, 4, 5, 6, 7, 8, 9] rfl)
                              have hP27 : va_P G.1 vwCl [(o, .inr (5, [.int (nI 0), .int ftr, .ref aso, .ref asl, .ref ace, .int (nI M), .int (nI B), .ref ape, .ref aki, .ref abo, .int at_, .int rM, .int rB, .ref arp, .ref ark, .ref arb, .int fb, .int fto, .int (nI R), .ref awh, .ref awn, .ref awm, .ref awk, .ref amo, .ref amu])), (aso, aI G 4 SO), (asl, aI G 4 SL), (ace, aI G 240 (va_cpy CE CE (((60 * jk) + ji) + (jn - 0)) (((60 * ju) + jj) + (jn - 0)) 0))] H := by
                                rw [show (va_cpy CE CE (((60 * jk) + ji) + (jn - 0)) (((60 * ju) + jj) + (jn - 0)) 0) = (CE) from cp_0]
                                exact hP
                              have hD27 : va_D A [(o, .inr (5, [.int (nI 0), .int ftr, .ref aso, .ref asl, .ref ace, .int (nI M), .int (nI B), .ref ape, .ref aki, .ref abo, .int at_, .int rM, .int rB, .ref arp, .ref ark, .ref arb, .int fb, .int fto, .int (nI R), .ref awh, .ref awn, .ref awm, .ref awk, .ref amo, .ref amu])), (aso, aI G 4 SO), (asl, aI G 4 SL), (ace, aI G 240 (va_cpy CE CE (((60 * jk) + ji) + (jn - 0)) (((60 * ju) + jj) + (jn - 0)) 0))] := by
                                rw [show (va_cpy CE CE (((60 * jk) + ji) + (jn - 0)) (((60 * ju) + jj) + (jn - 0)) 0) = (CE) from cp_0]
                                exact hD
                              exact loop2 (jn + 1) 0 H locs ls (by omega) (by omega) hP27 hD27 hS (lv_sub hl [0, 1, 2, 3, 4, 5, 6, 7, 8] rfl)
                          ·
                            refine lv_aload_n hx hb dX5_copy_144 rfl (lv_at hl 1 rfl) ?_
                            refine lv_iconst (v := nI 3) hx hb dX5_copy_145 (by decide) ?_
                            refine wtV (As := [.int (nI 3)]) (rest := []) (ci := 5) (q0 := 0) hE (kX5_fails l G o (nI 0) ftr aso asl ace M B ape aki abo at_ rM rB arp ark arb fb fto R awh awn awm awk amo amu (nI 3) ) (cwV 1 hts gX5_copy_X5_fails rfl rfl rfl (by decide +kernel) ⟨Nat.le_of_ble_eq_true rfl, Nat.le_of_ble_eq_true rfl⟩) hP hK hD hS [0] (by decide) rfl (Eq.trans (b := [o]) rfl rfl) (W1 := [(o, .inr (5, [.int (nI 3), .int ftr, .ref aso, .ref asl, .ref ace, .int (nI M), .int (nI B), .ref ape, .ref aki, .ref abo, .int at_, .int rM, .int rB, .ref arp, .ref ark, .ref arb, .int fb, .int fto, .int (nI R), .ref awh, .ref awn, .ref awm, .ref awk, .ref amo, .ref amu])), (aso, aI G 4 SO), (asl, aI G 4 SL), (ace, aI G 240 CE)]) rfl rfl rfl rfl hl.1 rfl (Nat.le_of_ble_eq_true rfl) dX5_copy_146 ⟨Nat.zero_le _, Nat.zero_le _⟩ (fun H locs hP hD hS => ?_)
                            refine W.eq (g2 := F0 m 149 ls [.int ((-10) - (nI 3))]) rfl ?_
                            exact hret _ _ _ _ _ (by first | with_reducible rfl | (simp only [s_copy, f_copy, cpG, iF_t c1, iF_t c2, iF_f c3, iF_f c4, iF_t c5, iF_f c6, iF_t (i32_nlt c6), iF_f c8, iF_t (i32_nlt c8), iF_f c10, iF_t (i32_nlt c10), iF_f c12, iF_t (i32_nlt c12), iF_f c14, iF_t (i32_nlt c14), iF_f c17, iF_t (i32_nlt c17), iF_f c18, iF_t (i32_nle c18), iF_f (show ¬ (hc L i n ∧ hc L2 j n) from fun h => by obtain ⟨⟨q1, q2, q3, q4⟩, ⟨q5, q6, q7, q8⟩⟩ := h; first | contradiction | exact absurd (i32_nle c18) q8), tn_nI (show jk < 2 ^ 31 by omega), tn_nI (show ju < 2 ^ 31 by omega)]; done) | contradiction) (by first | with_reducible exact hP | (simp only [s_copy, f_copy, cpG, iF_t c1, iF_t c2, iF_f c3, iF_f c4, iF_t c5, iF_f c6, iF_t (i32_nlt c6), iF_f c8, iF_t (i32_nlt c8), iF_f c10, iF_t (i32_nlt c10), iF_f c12, iF_t (i32_nlt c12), iF_f c14, iF_t (i32_nlt c14), iF_f c17, iF_t (i32_nlt c17), iF_f c18, iF_t (i32_nle c18), iF_f (show ¬ (hc L i n ∧ hc L2 j n) from fun h => by obtain ⟨⟨q1, q2, q3, q4⟩, ⟨q5, q6, q7, q8⟩⟩ := h; first | contradiction | exact absurd (i32_nle c18) q8), tn_nI (show jk < 2 ^ 31 by omega), tn_nI (show ju < 2 ^ 31 by omega)]; with_reducible exact hP) | contradiction | (simp only [s_copy, f_copy, cpG, iF_t c1, iF_t c2, iF_f c3, iF_f c4, iF_t c5, iF_f c6, iF_t (i32_nlt c6), iF_f c8, iF_t (i32_nlt c8), iF_f c10, iF_t (i32_nlt c10), iF_f c12, iF_t (i32_nlt c12), iF_f c14, iF_t (i32_nlt c14), iF_f c17, iF_t (i32_nlt c17), iF_f c18, iF_t (i32_nle c18), iF_f (show ¬ (hc L i n ∧ hc L2 j n) from fun h => by obtain ⟨⟨q1, q2, q3, q4⟩, ⟨q5, q6, q7, q8⟩⟩ := h; first | contradiction | exact absurd (i32_nle c18) q8), tn_nI (show jk < 2 ^ 31 by omega), tn_nI (show ju < 2 ^ 31 by omega)]; exact hP) | exact hP) hS dX5_copy_149
          ·
            refine lv_aload_n hx hb dX5_copy_64 rfl (lv_at hl 0 rfl) ?_
            refine lv_iconst (v := nI 2) hx hb dX5_copy_65 (by decide) ?_
            refine wtV (As := [.int (nI 2)]) (rest := []) (ci := 5) (q0 := 0) hE (kX5_fails l G o (nI 0) ftr aso asl ace M B ape aki abo at_ rM rB arp ark arb fb fto R awh awn awm awk amo amu (nI 2) ) (cwV 1 hts gX5_copy_X5_fails rfl rfl rfl (by decide +kernel) ⟨Nat.le_of_ble_eq_true rfl, Nat.le_of_ble_eq_true rfl⟩) hP hK hD hS [0] (by decide) rfl (Eq.trans (b := [o]) rfl rfl) (W1 := [(o, .inr (5, [.int (nI 2), .int ftr, .ref aso, .ref asl, .ref ace, .int (nI M), .int (nI B), .ref ape, .ref aki, .ref abo, .int at_, .int rM, .int rB, .ref arp, .ref ark, .ref arb, .int fb, .int fto, .int (nI R), .ref awh, .ref awn, .ref awm, .ref awk, .ref amo, .ref amu])), (aso, aI G 4 SO), (asl, aI G 4 SL), (ace, aI G 240 CE)]) rfl rfl rfl rfl hl.1 rfl (Nat.le_of_ble_eq_true rfl) dX5_copy_66 ⟨Nat.zero_le _, Nat.zero_le _⟩ (fun H locs hP hD hS => ?_)
            refine W.eq (g2 := F0 m 69 ls [.int ((-10) - (nI 2))]) rfl ?_
            exact hret _ _ _ _ _ (by first | with_reducible rfl | (simp only [s_copy, f_copy, cpG, iF_t c1, iF_t c2, iF_f c3, iF_f c4, iF_f c5, tn_nI (show jk < 2 ^ 31 by omega), tn_nI (show ju < 2 ^ 31 by omega)]; done) | contradiction) (by first | with_reducible exact hP | (simp only [s_copy, f_copy, cpG, iF_t c1, iF_t c2, iF_f c3, iF_f c4, iF_f c5, tn_nI (show jk < 2 ^ 31 by omega), tn_nI (show ju < 2 ^ 31 by omega)]; with_reducible exact hP) | contradiction | (simp only [s_copy, f_copy, cpG, iF_t c1, iF_t c2, iF_f c3, iF_f c4, iF_f c5, tn_nI (show jk < 2 ^ 31 by omega), tn_nI (show ju < 2 ^ 31 by omega)]; exact hP) | exact hP) hS dX5_copy_69
        ·
          refine lv_aload_n hx hb dX5_copy_43 rfl (lv_at hl 0 rfl) ?_
          refine lv_iconst (v := nI 1) hx hb dX5_copy_44 (by decide) ?_
          refine wtV (As := [.int (nI 1)]) (rest := []) (ci := 5) (q0 := 0) hE (kX5_fails l G o (nI 0) ftr aso asl ace M B ape aki abo at_ rM rB arp ark arb fb fto R awh awn awm awk amo amu (nI 1) ) (cwV 1 hts gX5_copy_X5_fails rfl rfl rfl (by decide +kernel) ⟨Nat.le_of_ble_eq_true rfl, Nat.le_of_ble_eq_true rfl⟩) hP hK hD hS [0] (by decide) rfl (Eq.trans (b := [o]) rfl rfl) (W1 := [(o, .inr (5, [.int (nI 1), .int ftr, .ref aso, .ref asl, .ref ace, .int (nI M), .int (nI B), .ref ape, .ref aki, .ref abo, .int at_, .int rM, .int rB, .ref arp, .ref ark, .ref arb, .int fb, .int fto, .int (nI R), .ref awh, .ref awn, .ref awm, .ref awk, .ref amo, .ref amu])), (aso, aI G 4 SO), (asl, aI G 4 SL), (ace, aI G 240 CE)]) rfl rfl rfl rfl hl.1 rfl (Nat.le_of_ble_eq_true rfl) dX5_copy_45 ⟨Nat.zero_le _, Nat.zero_le _⟩ (fun H locs hP hD hS => ?_)
          refine W.eq (g2 := F0 m 48 ls [.int ((-10) - (nI 1))]) rfl ?_
          exact hret _ _ _ _ _ (by first | with_reducible rfl | (simp only [s_copy, f_copy, cpG, iF_t c1, iF_t c2, iF_f c3, iF_t c4, tn_nI (show jk < 2 ^ 31 by omega), tn_nI (show ju < 2 ^ 31 by omega)]; done) | contradiction) (by first | with_reducible exact hP | (simp only [s_copy, f_copy, cpG, iF_t c1, iF_t c2, iF_f c3, iF_t c4, tn_nI (show jk < 2 ^ 31 by omega), tn_nI (show ju < 2 ^ 31 by omega)]; with_reducible exact hP) | contradiction | (simp only [s_copy, f_copy, cpG, iF_t c1, iF_t c2, iF_f c3, iF_t c4, tn_nI (show jk < 2 ^ 31 by omega), tn_nI (show ju < 2 ^ 31 by omega)]; exact hP) | exact hP) hS dX5_copy_48
    ·
      refine lv_iconst (v := (-1)) hx hb dX5_copy_19 (by decide) ?_
      exact hret _ _ _ _ _ (by first | with_reducible rfl | (simp only [s_copy, f_copy, cpG, iF_t c1, iF_f c2, tn_nI (show jk < 2 ^ 31 by omega)]; done) | contradiction) (by first | with_reducible exact hP | (simp only [s_copy, f_copy, cpG, iF_t c1, iF_f c2, tn_nI (show jk < 2 ^ 31 by omega)]; with_reducible exact hP) | contradiction | (simp only [s_copy, f_copy, cpG, iF_t c1, iF_f c2, tn_nI (show jk < 2 ^ 31 by omega)]; exact hP) | exact hP) hS dX5_copy_20
