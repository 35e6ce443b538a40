set_option maxHeartbeats 4000000 in
set_option maxRecDepth 100000 in
theorem kX5_readBoyn2 (l : Launch) (G : Gl) (o : Nat) (ff : Int32) (ftr : Int32) (aso : Nat) (asl : Nat) (ace : Nat) (M : Nat) (B : Nat) (ape : Nat) (aki : Nat) (abo : Nat) (arp : Nat) (ark : Nat) (arb : Nat) (fb : Int32) (fto : Int32) (R : Nat) (awh : Nat) (awn : Nat) (awm : Nat) (awk : Nat) (amo : Nat) (amu : Nat) (CE : Nat → Int32) (RK : Nat → Int32) (RB : Nat → Int32) (q : Nat) (z : Nat) (M9 : Nat) (c0 : Nat) (hM9 : M9 ≤ 5) (hM2 : 2 ≤ M9) (hc4 : c0 < 4) (hz2 : z ≤ 240) (hq : q < z) (hk1 : ¬ CE q < nI 98) (hk2 : ¬ nI 100 < CE q) (hno : ¬ (q + 1 < z ∧ dgt (CE (q + 1)) 0 (M9 - 1))) : Wt l G yX5_readBoy wsX5_readBoy ({ frames := 2, cells := 0, slots := 0, locals := 45 } : Room) [.ref o, .int (nI z)] [(o, .inr (5, [.int ff, .int ftr, .ref aso, .ref asl, .ref ace, .int (nI M), .int (nI B), .ref ape, .ref aki, .ref abo, .int (nI q), .int (nI M9), .int (nI c0), .ref arp, .ref ark, .ref arb, .int fb, .int fto, .int (nI R), .ref awh, .ref awn, .ref awm, .ref awk, .ref amo, .ref amu])), (ace, aI G 240 CE), (ark, aI G 4 RK), (arb, aI G 4 RB)] [(o, .inr (5, [.int ff, .int ftr, .ref aso, .ref asl, .ref ace, .int (nI M), .int (nI B), .ref ape, .ref aki, .ref abo, .int (nI (q + 1)), .int (nI M9), .int (nI (c0 + 1)), .ref arp, .ref ark, .ref arb, .int fb, .int fto, .int (nI R), .ref awh, .ref awn, .ref awm, .ref awk, .ref amo, .ref amu])), (ace, aI G 240 CE), (ark, aI G 4 (upd RK c0 (nI (k9 (CE q))))), (arb, aI G 4 (upd RB c0 (-9)))] (some (.int (bI False))) := by
  refine Wt.ofZ (cc := cX5_readBoy) (maxL := 3) (by decide) rfl (Nat.le_of_ble_eq_true rfl) ?_
  intro p e s m below meth c Q A ls hE hP hK hD hS hl hret
  obtain ⟨hx, hb, hml, hown, hts⟩ := id hE
  have hl : lv_has ls 3 [(0, .ref o), (1, .int (nI z))] := hl
  refine lv_aload_n hx hb dX5_readBoy_0 rfl (lv_at hl 0 rfl) ?_
  refine g_get (v := .int (nI q)) hx hb hts ixX5_readBoy_X5 hown hK hP 0 rfl rfl 10 (by decide) lkX5_readBoy_71 rfl dX5_readBoy_1 ?_
  refine lv_iload_n hx hb dX5_readBoy_4 rfl (lv_at hl 1 rfl) ?_
  refine ic_ge (tgt := 20) hx hb (by omega) (by omega) dX5_readBoy_5 (by decide) (fun c1 => ?_) (fun c1 => ?_)
  ·
    omega
  ·
    refine lv_aload_n hx hb dX5_readBoy_8 rfl (lv_at hl 0 rfl) ?_
    refine g_get (v := .ref ace) hx hb hts ixX5_readBoy_X5 hown hK hP 0 rfl rfl 4 (by decide) lkX5_readBoy_16 rfl dX5_readBoy_9 ?_
    refine lv_aload_n hx hb dX5_readBoy_12 rfl (lv_at hl 0 rfl) ?_
    refine g_get (v := .int (nI q)) hx hb hts ixX5_readBoy_X5 hown hK hP 0 rfl rfl 10 (by decide) lkX5_readBoy_71 rfl dX5_readBoy_13 ?_
    refine n_ald hx hb hK hP 1 rfl (k := q) (by omega) (by decide) dX5_readBoy_16 ?_
    refine lv_goto (tgt := 21) hx hb dX5_readBoy_17 (by decide) ?_
    refine lv_istore_n (lv' := [(2, .int (CE q)), (0, .ref o), (1, .int (nI z))]) hx hb dX5_readBoy_21 rfl hl (by decide) rfl (fun ls hl => ?_)
    refine lv_aload_n hx hb dX5_readBoy_22 rfl (lv_at hl 1 rfl) ?_
    refine g_get (v := .ref ark) hx hb hts ixX5_readBoy_X5 hown hK hP 0 rfl rfl 14 (by decide) lkX5_readBoy_31 rfl dX5_readBoy_23 ?_
    refine lv_aload_n hx hb dX5_readBoy_26 rfl (lv_at hl 1 rfl) ?_
    refine g_get (v := .int (nI c0)) hx hb hts ixX5_readBoy_X5 hown hK hP 0 rfl rfl 12 (by decide) lkX5_readBoy_95 rfl dX5_readBoy_27 ?_
    refine lv_iload_n hx hb dX5_readBoy_30 rfl (lv_at hl 0 rfl) ?_
    refine lv_bipush (v := nI 98) hx hb dX5_readBoy_31 (by decide) ?_
    refine lv_icmp_ne (tgt := 40) hx hb dX5_readBoy_33 (by decide) (fun c2 => ?_) (fun c2 => ?_)
    ·
      refine lv_iload_n hx hb dX5_readBoy_40 rfl (lv_at hl 0 rfl) ?_
      refine lv_bipush (v := nI 99) hx hb dX5_readBoy_41 (by decide) ?_
      refine lv_icmp_ne (tgt := 50) hx hb dX5_readBoy_43 (by decide) (fun c3 => ?_) (fun c3 => ?_)
      ·
        refine lv_iload_n hx hb dX5_readBoy_50 rfl (lv_at hl 0 rfl) ?_
        refine lv_bipush (v := nI 100) hx hb dX5_readBoy_51 (by decide) ?_
        refine lv_icmp_ne (tgt := 60) hx hb dX5_readBoy_53 (by decide) (fun c4 => ?_) (fun c4 => ?_)
        ·
          refine lv_bipush (v := (-9)) hx hb dX5_readBoy_60 (by decide) ?_
          exact absurd (kn_of hk1 hk2) (k9_no c2 c3 c4)
        ·
          refine lv_iconst (v := nI 2) hx hb dX5_readBoy_56 (by decide) ?_
          refine lv_goto (tgt := 62) hx hb dX5_readBoy_57 (by decide) ?_
          refine lv_tope (show nI 2 = nI (k9 (CE q)) from k9_2 c4) ?_
          refine n_ast hx hb hK hP hD hS 2 rfl (k := c0) (by omega) (by decide) dX5_readBoy_62 (fun H locs hP hD hS => ?_)
          have hP : va_P G.1 vwCl [(o, .inr (5, [.int ff, .int ftr, .ref aso, .ref asl, .ref ace, .int (nI M), .int (nI B), .ref ape, .ref aki, .ref abo, .int (nI q), .int (nI M9), .int (nI c0), .ref arp, .ref ark, .ref arb, .int fb, .int fto, .int (nI R), .ref awh, .ref awn, .ref awm, .ref awk, .ref amo, .ref amu])), (ace, aI G 240 CE), (ark, aI G 4 (upd RK c0 (nI (k9 (CE q))))), (arb, aI G 4 RB)] H := hP
          have hD : va_D A [(o, .inr (5, [.int ff, .int ftr, .ref aso, .ref asl, .ref ace, .int (nI M), .int (nI B), .ref ape, .ref aki, .ref abo, .int (nI q), .int (nI M9), .int (nI c0), .ref arp, .ref ark, .ref arb, .int fb, .int fto, .int (nI R), .ref awh, .ref awn, .ref awm, .ref awk, .ref amo, .ref amu])), (ace, aI G 240 CE), (ark, aI G 4 (upd RK c0 (nI (k9 (CE q))))), (arb, aI G 4 RB)] := hD
          refine lv_aload_n hx hb dX5_readBoy_63 rfl (lv_at hl 1 rfl) ?_
          refine g_get (v := .ref ark) hx hb hts ixX5_readBoy_X5 hown hK hP 0 rfl rfl 14 (by decide) lkX5_readBoy_31 rfl dX5_readBoy_64 ?_
          refine lv_aload_n hx hb dX5_readBoy_67 rfl (lv_at hl 1 rfl) ?_
          refine g_get (v := .int (nI c0)) hx hb hts ixX5_readBoy_X5 hown hK hP 0 rfl rfl 12 (by decide) lkX5_readBoy_95 rfl dX5_readBoy_68 ?_
          refine n_ald hx hb hK hP 2 rfl (k := c0) (by omega) (by decide) dX5_readBoy_71 ?_
          refine lv_tope (show (upd RK c0 (nI (k9 (CE q)))) c0 = nI (k9 (CE q)) from upS _ _ _) ?_
          have hk99 := (kn_of hk1 hk2).1
          refine lv_bipush (v := (-9)) hx hb dX5_readBoy_72 (by decide) ?_
          refine lv_icmp_ne (tgt := 79) hx hb dX5_readBoy_74 (by decide) (fun c5 => ?_) (fun c5 => ?_)
          ·
            refine lv_aload_n hx hb dX5_readBoy_79 rfl (lv_at hl 1 rfl) ?_
            refine lv_dup hx hb dX5_readBoy_80 rfl ?_
            refine g_get (v := .int (nI q)) hx hb hts ixX5_readBoy_X5 hown hK hP 0 rfl rfl 10 (by decide) lkX5_readBoy_71 rfl dX5_readBoy_81 ?_
            refine lv_iconst (v := nI 1) hx hb dX5_readBoy_84 (by decide) ?_
            refine lv_iadd hx hb dX5_readBoy_85 ?_
            refine lv_tope (show (nI q) + (nI 1) = nI (q + 1) from nI_add _ _) ?_
            refine g_put (v := (nI (q + 1))) hx hb hts ixX5_readBoy_X5 tyX5 tyX5_ok nmX5 hown hK hP hD hS 0 rfl rfl 10 (by decide) lkX5_readBoy_71 rfl rfl (Nat.le_of_ble_eq_true rfl) dX5_readBoy_86 (fun H locs hP hD hS => ?_)
            have hP : va_P G.1 vwCl [(o, .inr (5, [.int ff, .int ftr, .ref aso, .ref asl, .ref ace, .int (nI M), .int (nI B), .ref ape, .ref aki, .ref abo, .int (nI (q + 1)), .int (nI M9), .int (nI c0), .ref arp, .ref ark, .ref arb, .int fb, .int fto, .int (nI R), .ref awh, .ref awn, .ref awm, .ref awk, .ref amo, .ref amu])), (ace, aI G 240 CE), (ark, aI G 4 (upd RK c0 (nI (k9 (CE q))))), (arb, aI G 4 RB)] H := hP
            have hD : va_D A [(o, .inr (5, [.int ff, .int ftr, .ref aso, .ref asl, .ref ace, .int (nI M), .int (nI B), .ref ape, .ref aki, .ref abo, .int (nI (q + 1)), .int (nI M9), .int (nI c0), .ref arp, .ref ark, .ref arb, .int fb, .int fto, .int (nI R), .ref awh, .ref awn, .ref awm, .ref awk, .ref amo, .ref amu])), (ace, aI G 240 CE), (ark, aI G 4 (upd RK c0 (nI (k9 (CE q))))), (arb, aI G 4 RB)] := hD
            refine lv_aload_n hx hb dX5_readBoy_89 rfl (lv_at hl 1 rfl) ?_
            refine g_get (v := .ref arb) hx hb hts ixX5_readBoy_X5 hown hK hP 0 rfl rfl 15 (by decide) lkX5_readBoy_34 rfl dX5_readBoy_90 ?_
            refine lv_aload_n hx hb dX5_readBoy_93 rfl (lv_at hl 1 rfl) ?_
            refine g_get (v := .int (nI c0)) hx hb hts ixX5_readBoy_X5 hown hK hP 0 rfl rfl 12 (by decide) lkX5_readBoy_95 rfl dX5_readBoy_94 ?_
            refine lv_aload_n hx hb dX5_readBoy_97 rfl (lv_at hl 1 rfl) ?_
            refine lv_iload_n hx hb dX5_readBoy_98 rfl (lv_at hl 2 rfl) ?_
            refine lv_iconst (v := nI 0) hx hb dX5_readBoy_99 (by decide) ?_
            refine lv_aload_n hx hb dX5_readBoy_100 rfl (lv_at hl 1 rfl) ?_
            refine g_get (v := .int (nI M9)) hx hb hts ixX5_readBoy_X5 hown hK hP 0 rfl rfl 11 (by decide) lkX5_readBoy_92 rfl dX5_readBoy_101 ?_
            refine lv_iconst (v := nI 1) hx hb dX5_readBoy_104 (by decide) ?_
            refine lv_isub hx hb dX5_readBoy_105 ?_
            refine lv_tope (show (nI M9) - (nI 1) = nI (M9 - 1) from pk_sub (by omega)) ?_
            refine wtV (As := [.int (nI z), .int (nI 0), .int (nI (M9 - 1))]) (rest := [.int (nI c0), .ref arb]) (ci := 5) (q0 := 0) hE (kX5_digitn l G o ff ftr aso asl ace M B ape aki abo (nI M9) (nI c0) arp ark arb fb fto R awh awn awm awk amo amu CE (q + 1) z 0 (M9 - 1) hno hz2 (by omega)) (cwV 3 hts gX5_readBoy_X5_digit rfl rfl rfl (by decide +kernel) ⟨Nat.le_of_ble_eq_true rfl, Nat.le_of_ble_eq_true rfl⟩) hP hK hD hS [0, 1] (by decide) rfl (Eq.trans (b := [o, ace]) rfl rfl) (W1 := [(o, .inr (5, [.int ff, .int ftr, .ref aso, .ref asl, .ref ace, .int (nI M), .int (nI B), .ref ape, .ref aki, .ref abo, .int (nI (q + 1)), .int (nI M9), .int (nI c0), .ref arp, .ref ark, .ref arb, .int fb, .int fto, .int (nI R), .ref awh, .ref awn, .ref awm, .ref awk, .ref amo, .ref amu])), (ace, aI G 240 CE), (ark, aI G 4 (upd RK c0 (nI (k9 (CE q))))), (arb, aI G 4 RB)]) rfl rfl rfl rfl hl.1 rfl (Nat.le_of_ble_eq_true rfl) dX5_readBoy_106 ⟨Nat.zero_le _, Nat.zero_le _⟩ (fun H locs hP hD hS => ?_)
            refine W.eq (g2 := F0 m 109 ls [.int (-9), .int (nI c0), .ref arb]) rfl ?_
            refine n_ast hx hb hK hP hD hS 3 rfl (k := c0) (by omega) (by decide) dX5_readBoy_109 (fun H locs hP hD hS => ?_)
            have hP : va_P G.1 vwCl [(o, .inr (5, [.int ff, .int ftr, .ref aso, .ref asl, .ref ace, .int (nI M), .int (nI B), .ref ape, .ref aki, .ref abo, .int (nI (q + 1)), .int (nI M9), .int (nI c0), .ref arp, .ref ark, .ref arb, .int fb, .int fto, .int (nI R), .ref awh, .ref awn, .ref awm, .ref awk, .ref amo, .ref amu])), (ace, aI G 240 CE), (ark, aI G 4 (upd RK c0 (nI (k9 (CE q))))), (arb, aI G 4 (upd RB c0 (-9)))] H := hP
            have hD : va_D A [(o, .inr (5, [.int ff, .int ftr, .ref aso, .ref asl, .ref ace, .int (nI M), .int (nI B), .ref ape, .ref aki, .ref abo, .int (nI (q + 1)), .int (nI M9), .int (nI c0), .ref arp, .ref ark, .ref arb, .int fb, .int fto, .int (nI R), .ref awh, .ref awn, .ref awm, .ref awk, .ref amo, .ref amu])), (ace, aI G 240 CE), (ark, aI G 4 (upd RK c0 (nI (k9 (CE q))))), (arb, aI G 4 (upd RB c0 (-9)))] := hD
            refine lv_aload_n hx hb dX5_readBoy_110 rfl (lv_at hl 1 rfl) ?_
            refine lv_dup hx hb dX5_readBoy_111 rfl ?_
            refine g_get (v := .int (nI c0)) hx hb hts ixX5_readBoy_X5 hown hK hP 0 rfl rfl 12 (by decide) lkX5_readBoy_95 rfl dX5_readBoy_112 ?_
            refine lv_iconst (v := nI 1) hx hb dX5_readBoy_115 (by decide) ?_
            refine lv_iadd hx hb dX5_readBoy_116 ?_
            refine lv_tope (show (nI c0) + (nI 1) = nI (c0 + 1) from nI_add _ _) ?_
            refine g_put (v := (nI (c0 + 1))) hx hb hts ixX5_readBoy_X5 tyX5 tyX5_ok nmX5 hown hK hP hD hS 0 rfl rfl 12 (by decide) lkX5_readBoy_95 rfl rfl (Nat.le_of_ble_eq_true rfl) dX5_readBoy_117 (fun H locs hP hD hS => ?_)
            have hP : va_P G.1 vwCl [(o, .inr (5, [.int ff, .int ftr, .ref aso, .ref asl, .ref ace, .int (nI M), .int (nI B), .ref ape, .ref aki, .ref abo, .int (nI (q + 1)), .int (nI M9), .int (nI (c0 + 1)), .ref arp, .ref ark, .ref arb, .int fb, .int fto, .int (nI R), .ref awh, .ref awn, .ref awm, .ref awk, .ref amo, .ref amu])), (ace, aI G 240 CE), (ark, aI G 4 (upd RK c0 (nI (k9 (CE q))))), (arb, aI G 4 (upd RB c0 (-9)))] H := hP
            have hD : va_D A [(o, .inr (5, [.int ff, .int ftr, .ref aso, .ref asl, .ref ace, .int (nI M), .int (nI B), .ref ape, .ref aki, .ref abo, .int (nI (q + 1)), .int (nI M9), .int (nI (c0 + 1)), .ref arp, .ref ark, .ref arb, .int fb, .int fto, .int (nI R), .ref awh, .ref awn, .ref awm, .ref awk, .ref amo, .ref amu])), (ace, aI G 240 CE), (ark, aI G 4 (upd RK c0 (nI (k9 (CE q))))), (arb, aI G 4 (upd RB c0 (-9)))] := hD
            refine lv_aload_n hx hb dX5_readBoy_120 rfl (lv_at hl 1 rfl) ?_
            refine g_get (v := .ref arb) hx hb hts ixX5_readBoy_X5 hown hK hP 0 rfl rfl 15 (by decide) lkX5_readBoy_34 rfl dX5_readBoy_121 ?_
            refine lv_aload_n hx hb dX5_readBoy_124 rfl (lv_at hl 1 rfl) ?_
            refine g_get (v := .int (nI (c0 + 1))) hx hb hts ixX5_readBoy_X5 hown hK hP 0 rfl rfl 12 (by decide) lkX5_readBoy_95 rfl dX5_readBoy_125 ?_
            refine lv_iconst (v := nI 1) hx hb dX5_readBoy_128 (by decide) ?_
            refine lv_isub hx hb dX5_readBoy_129 ?_
            refine lv_tope (show (nI (c0 + 1)) - (nI 1) = nI ((c0 + 1) - 1) from pk_sub (by omega)) ?_
            refine n_ald hx hb hK hP 3 rfl (k := (c0 + 1) - 1) (by omega) (by decide) dX5_readBoy_130 ?_
            refine lv_tope (show (upd RB c0 (-9)) ((c0 + 1) - 1) = (-9) from upS _ _ _) ?_
            refine lv_bipush (v := (-9)) hx hb dX5_readBoy_131 (by decide) ?_
            refine lv_icmp_eq (tgt := 140) hx hb dX5_readBoy_133 (by decide) (fun c6 => ?_) (fun c6 => ?_)
            ·
              refine lv_iconst (v := nI 0) hx hb dX5_readBoy_140 (by decide) ?_
              exact hret _ _ _ _ _ ((bI_f id).symm) (hP) hS dX5_readBoy_141
            ·
              exact absurd rfl c6
          ·
            exact absurd c5 (nI_n9 (by omega))
      ·
        refine lv_iconst (v := nI 1) hx hb dX5_readBoy_46 (by decide) ?_
        refine lv_goto (tgt := 62) hx hb dX5_readBoy_47 (by decide) ?_
        refine lv_tope (show nI 1 = nI (k9 (CE q)) from k9_1 c3) ?_
        refine n_ast hx hb hK hP hD hS 2 rfl (k := c0) (by omega) (by decide) dX5_readBoy_62 (fun H locs hP hD hS => ?_)
        have hP : va_P G.1 vwCl [(o, .inr (5, [.int ff, .int ftr, .ref aso, .ref asl, .ref ace, .int (nI M), .int (nI B), .ref ape, .ref aki, .ref abo, .int (nI q), .int (nI M9), .int (nI c0), .ref arp, .ref ark, .ref arb, .int fb, .int fto, .int (nI R), .ref awh, .ref awn, .ref awm, .ref awk, .ref amo, .ref amu])), (ace, aI G 240 CE), (ark, aI G 4 (upd RK c0 (nI (k9 (CE q))))), (arb, aI G 4 RB)] H := hP
        have hD : va_D A [(o, .inr (5, [.int ff, .int ftr, .ref aso, .ref asl, .ref ace, .int (nI M), .int (nI B), .ref ape, .ref aki, .ref abo, .int (nI q), .int (nI M9), .int (nI c0), .ref arp, .ref ark, .ref arb, .int fb, .int fto, .int (nI R), .ref awh, .ref awn, .ref awm, .ref awk, .ref amo, .ref amu])), (ace, aI G 240 CE), (ark, aI G 4 (upd RK c0 (nI (k9 (CE q))))), (arb, aI G 4 RB)] := hD
        refine lv_aload_n hx hb dX5_readBoy_63 rfl (lv_at hl 1 rfl) ?_
        refine g_get (v := .ref ark) hx hb hts ixX5_readBoy_X5 hown hK hP 0 rfl rfl 14 (by decide) lkX5_readBoy_31 rfl dX5_readBoy_64 ?_
        refine lv_aload_n hx hb dX5_readBoy_67 rfl (lv_at hl 1 rfl) ?_
        refine g_get (v := .int (nI c0)) hx hb hts ixX5_readBoy_X5 hown hK hP 0 rfl rfl 12 (by decide) lkX5_readBoy_95 rfl dX5_readBoy_68 ?_
        refine n_ald hx hb hK hP 2 rfl (k := c0) (by omega) (by decide) dX5_readBoy_71 ?_
        refine lv_tope (show (upd RK c0 (nI (k9 (CE q)))) c0 = nI (k9 (CE q)) from upS _ _ _) ?_
        have hk99 := (kn_of hk1 hk2).1
        refine lv_bipush (v := (-9)) hx hb dX5_readBoy_72 (by decide) ?_
        refine lv_icmp_ne (tgt := 79) hx hb dX5_readBoy_74 (by decide) (fun c7 => ?_) (fun c7 => ?_)
        ·
          refine lv_aload_n hx hb dX5_readBoy_79 rfl (lv_at hl 1 rfl) ?_
          refine lv_dup hx hb dX5_readBoy_80 rfl ?_
          refine g_get (v := .int (nI q)) hx hb hts ixX5_readBoy_X5 hown hK hP 0 rfl rfl 10 (by decide) lkX5_readBoy_71 rfl dX5_readBoy_81 ?_
          refine lv_iconst (v := nI 1) hx hb dX5_readBoy_84 (by decide) ?_
          refine lv_iadd hx hb dX5_readBoy_85 ?_
          refine lv_tope (show (nI q) + (nI 1) = nI (q + 1) from nI_add _ _) ?_
          refine g_put (v := (nI (q + 1))) hx hb hts ixX5_readBoy_X5 tyX5 tyX5_ok nmX5 hown hK hP hD hS 0 rfl rfl 10 (by decide) lkX5_readBoy_71 rfl rfl (Nat.le_of_ble_eq_true rfl) dX5_readBoy_86 (fun H locs hP hD hS => ?_)
          have hP : va_P G.1 vwCl [(o, .inr (5, [.int ff, .int ftr, .ref aso, .ref asl, .ref ace, .int (nI M), .int (nI B), .ref ape, .ref aki, .ref abo, .int (nI (q + 1)), .int (nI M9), .int (nI c0), .ref arp, .ref ark, .ref arb, .int fb, .int fto, .int (nI R), .ref awh, .ref awn, .ref awm, .ref awk, .ref amo, .ref amu])), (ace, aI G 240 CE), (ark, aI G 4 (upd RK c0 (nI (k9 (CE q))))), (arb, aI G 4 RB)] H := hP
          have hD : va_D A [(o, .inr (5, [.int ff, .int ftr, .ref aso, .ref asl, .ref ace, .int (nI M), .int (nI B), .ref ape, .ref aki, .ref abo, .int (nI (q + 1)), .int (nI M9), .int (nI c0), .ref arp, .ref ark, .ref arb, .int fb, .int fto, .int (nI R), .ref awh, .ref awn, .ref awm, .ref awk, .ref amo, .ref amu])), (ace, aI G 240 CE), (ark, aI G 4 (upd RK c0 (nI (k9 (CE q))))), (arb, aI G 4 RB)] := hD
          refine lv_aload_n hx hb dX5_readBoy_89 rfl (lv_at hl 1 rfl) ?_
          refine g_get (v := .ref arb) hx hb hts ixX5_readBoy_X5 hown hK hP 0 rfl rfl 15 (by decide) lkX5_readBoy_34 rfl dX5_readBoy_90 ?_
          refine lv_aload_n hx hb dX5_readBoy_93 rfl (lv_at hl 1 rfl) ?_
          refine g_get (v := .int (nI c0)) hx hb hts ixX5_readBoy_X5 hown hK hP 0 rfl rfl 12 (by decide) lkX5_readBoy_95 rfl dX5_readBoy_94 ?_
          refine lv_aload_n hx hb dX5_readBoy_97 rfl (lv_at hl 1 rfl) ?_
          refine lv_iload_n hx hb dX5_readBoy_98 rfl (lv_at hl 2 rfl) ?_
          refine lv_iconst (v := nI 0) hx hb dX5_readBoy_99 (by decide) ?_
          refine lv_aload_n hx hb dX5_readBoy_100 rfl (lv_at hl 1 rfl) ?_
          refine g_get (v := .int (nI M9)) hx hb hts ixX5_readBoy_X5 hown hK hP 0 rfl rfl 11 (by decide) lkX5_readBoy_92 rfl dX5_readBoy_101 ?_
          refine lv_iconst (v := nI 1) hx hb dX5_readBoy_104 (by decide) ?_
          refine lv_isub hx hb dX5_readBoy_105 ?_
          refine lv_tope (show (nI M9) - (nI 1) = nI (M9 - 1) from pk_sub (by omega)) ?_
          refine wtV (As := [.int (nI z), .int (nI 0), .int (nI (M9 - 1))]) (rest := [.int (nI c0), .ref arb]) (ci := 5) (q0 := 0) hE (kX5_digitn l G o ff ftr aso asl ace M B ape aki abo (nI M9) (nI c0) arp ark arb fb fto R awh awn awm awk amo amu CE (q + 1) z 0 (M9 - 1) hno hz2 (by omega)) (cwV 3 hts gX5_readBoy_X5_digit rfl rfl rfl (by decide +kernel) ⟨Nat.le_of_ble_eq_true rfl, Nat.le_of_ble_eq_true rfl⟩) hP hK hD hS [0, 1] (by decide) rfl (Eq.trans (b := [o, ace]) rfl rfl) (W1 := [(o, .inr (5, [.int ff, .int ftr, .ref aso, .ref asl, .ref ace, .int (nI M), .int (nI B), .ref ape, .ref aki, .ref abo, .int (nI (q + 1)), .int (nI M9), .int (nI c0), .ref arp, .ref ark, .ref arb, .int fb, .int fto, .int (nI R), .ref awh, .ref awn, .ref awm, .ref awk, .ref amo, .ref amu])), (ace, aI G 240 CE), (ark, aI G 4 (upd RK c0 (nI (k9 (CE q))))), (arb, aI G 4 RB)]) rfl rfl rfl rfl hl.1 rfl (Nat.le_of_ble_eq_true rfl) dX5_readBoy_106 ⟨Nat.zero_le _, Nat.zero_le _⟩ (fun H locs hP hD hS => ?_)
          refine W.eq (g2 := F0 m 109 ls [.int (-9), .int (nI c0), .ref arb]) rfl ?_
          refine n_ast hx hb hK hP hD hS 3 rfl (k := c0) (by omega) (by decide) dX5_readBoy_109 (fun H locs hP hD hS => ?_)
          have hP : va_P G.1 vwCl [(o, .inr (5, [.int ff, .int ftr, .ref aso, .ref asl, .ref ace, .int (nI M), .int (nI B), .ref ape, .ref aki, .ref abo, .int (nI (q + 1)), .int (nI M9), .int (nI c0), .ref arp, .ref ark, .ref arb, .int fb, .int fto, .int (nI R), .ref awh, .ref awn, .ref awm, .ref awk, .ref amo, .ref amu])), (ace, aI G 240 CE), (ark, aI G 4 (upd RK c0 (nI (k9 (CE q))))), (arb, aI G 4 (upd RB c0 (-9)))] H := hP
          have hD : va_D A [(o, .inr (5, [.int ff, .int ftr, .ref aso, .ref asl, .ref ace, .int (nI M), .int (nI B), .ref ape, .ref aki, .ref abo, .int (nI (q + 1)), .int (nI M9), .int (nI c0), .ref arp, .ref ark, .ref arb, .int fb, .int fto, .int (nI R), .ref awh, .ref awn, .ref awm, .ref awk, .ref amo, .ref amu])), (ace, aI G 240 CE), (ark, aI G 4 (upd RK c0 (nI (k9 (CE q))))), (arb, aI G 4 (upd RB c0 (-9)))] := hD
          refine lv_aload_n hx hb dX5_readBoy_110 rfl (lv_at hl 1 rfl) ?_
          refine lv_dup hx hb dX5_readBoy_111 rfl ?_
          refine g_get (v := .int (nI c0)) hx hb hts ixX5_readBoy_X5 hown hK hP 0 rfl rfl 12 (by decide) lkX5_readBoy_95 rfl dX5_readBoy_112 ?_
          refine lv_iconst (v := nI 1) hx hb dX5_readBoy_115 (by decide) ?_
          refine lv_iadd hx hb dX5_readBoy_116 ?_
          refine lv_tope (show (nI c0) + (nI 1) = nI (c0 + 1) from nI_add _ _) ?_
          refine g_put (v := (nI (c0 + 1))) hx hb hts ixX5_readBoy_X5 tyX5 tyX5_ok nmX5 hown hK hP hD hS 0 rfl rfl 12 (by decide) lkX5_readBoy_95 rfl rfl (Nat.le_of_ble_eq_true rfl) dX5_readBoy_117 (fun H locs hP hD hS => ?_)
          have hP : va_P G.1 vwCl [(o, .inr (5, [.int ff, .int ftr, .ref aso, .ref asl, .ref ace, .int (nI M), .int (nI B), .ref ape, .ref aki, .ref abo, .int (nI (q + 1)), .int (nI M9), .int (nI (c0 + 1)), .ref arp, .ref ark, .ref arb, .int fb, .int fto, .int (nI R), .ref awh, .ref awn, .ref awm, .ref awk, .ref amo, .ref amu])), (ace, aI G 240 CE), (ark, aI G 4 (upd RK c0 (nI (k9 (CE q))))), (arb, aI G 4 (upd RB c0 (-9)))] H := hP
          have hD : va_D A [(o, .inr (5, [.int ff, .int ftr, .ref aso, .ref asl, .ref ace, .int (nI M), .int (nI B), .ref ape, .ref aki, .ref abo, .int (nI (q + 1)), .int (nI M9), .int (nI (c0 + 1)), .ref arp, .ref ark, .ref arb, .int fb, .int fto, .int (nI R), .ref awh, .ref awn, .ref awm, .ref awk, .ref amo, .ref amu])), (ace, aI G 240 CE), (ark, aI G 4 (upd RK c0 (nI (k9 (CE q))))), (arb, aI G 4 (upd RB c0 (-9)))] := hD
          refine lv_aload_n hx hb dX5_readBoy_120 rfl (lv_at hl 1 rfl) ?_
          refine g_get (v := .ref arb) hx hb hts ixX5_readBoy_X5 hown hK hP 0 rfl rfl 15 (by decide) lkX5_readBoy_34 rfl dX5_readBoy_121 ?_
          refine lv_aload_n hx hb dX5_readBoy_124 rfl (lv_at hl 1 rfl) ?_
          refine g_get (v := .int (nI (c0 + 1))) hx hb hts ixX5_readBoy_X5 hown hK hP 0 rfl rfl 12 (by decide) lkX5_readBoy_95 rfl dX5_readBoy_125 ?_
          refine lv_iconst (v := nI 1) hx hb dX5_readBoy_128 (by decide) ?_
          refine lv_isub hx hb dX5_readBoy_129 ?_
          refine lv_tope (show (nI (c0 + 1)) - (nI 1) = nI ((c0 + 1) - 1) from pk_sub (by omega)) ?_
          refine n_ald hx hb hK hP 3 rfl (k := (c0 + 1) - 1) (by omega) (by decide) dX5_readBoy_130 ?_
          refine lv_tope (show (upd RB c0 (-9)) ((c0 + 1) - 1) = (-9) from upS _ _ _) ?_
          refine lv_bipush (v := (-9)) hx hb dX5_readBoy_131 (by decide) ?_
          refine lv_icmp_eq (tgt := 140) hx hb dX5_readBoy_133 (by decide) (fun c8 => ?_) (fun c8 => ?_)
          ·
            refine lv_iconst (v := nI 0) hx hb dX5_readBoy_140 (by decide) ?_
            exact hret _ _ _ _ _ ((bI_f id).symm) (hP) hS dX5_readBoy_141
          ·
            exact absurd rfl c8
        ·
          exact absurd c7 (nI_n9 (by omega))
    ·
      refine lv_iconst (v := nI 0) hx hb dX5_readBoy_36 (by decide) ?_
      refine lv_goto (tgt := 62) hx hb dX5_readBoy_37 (by decide) ?_
      refine lv_tope (show nI 0 = nI (k9 (CE q)) from k9_0 c2) ?_
      refine n_ast hx hb hK hP hD hS 2 rfl (k := c0) (by omega) (by decide) dX5_readBoy_62 (fun H locs hP hD hS => ?_)
      have hP : va_P G.1 vwCl [(o, .inr (5, [.int ff, .int ftr, .ref aso, .ref asl, .ref ace, .int (nI M), .int (nI B), .ref ape, .ref aki, .ref abo, .int (nI q), .int (nI M9), .int (nI c0), .ref arp, .ref ark, .ref arb, .int fb, .int fto, .int (nI R), .ref awh, .ref awn, .ref awm, .ref awk, .ref amo, .ref amu])), (ace, aI G 240 CE), (ark, aI G 4 (upd RK c0 (nI (k9 (CE q))))), (arb, aI G 4 RB)] H := hP
      have hD : va_D A [(o, .inr (5, [.int ff, .int ftr, .ref aso, .ref asl, .ref ace, .int (nI M), .int (nI B), .ref ape, .ref aki, .ref abo, .int (nI q), .int (nI M9), .int (nI c0), .ref arp, .ref ark, .ref arb, .int fb, .int fto, .int (nI R), .ref awh, .ref awn, .ref awm, .ref awk, .ref amo, .ref amu])), (ace, aI G 240 CE), (ark, aI G 4 (upd RK c0 (nI (k9 (CE q))))), (arb, aI G 4 RB)] := hD
      refine lv_aload_n hx hb dX5_readBoy_63 rfl (lv_at hl 1 rfl) ?_
      refine g_get (v := .ref ark) hx hb hts ixX5_readBoy_X5 hown hK hP 0 rfl rfl 14 (by decide) lkX5_readBoy_31 rfl dX5_readBoy_64 ?_
      refine lv_aload_n hx hb dX5_readBoy_67 rfl (lv_at hl 1 rfl) ?_
      refine g_get (v := .int (nI c0)) hx hb hts ixX5_readBoy_X5 hown hK hP 0 rfl rfl 12 (by decide) lkX5_readBoy_95 rfl dX5_readBoy_68 ?_
      refine n_ald hx hb hK hP 2 rfl (k := c0) (by omega) (by decide) dX5_readBoy_71 ?_
      refine lv_tope (show (upd RK c0 (nI (k9 (CE q)))) c0 = nI (k9 (CE q)) from upS _ _ _) ?_
      have hk99 := (kn_of hk1 hk2).1
      refine lv_bipush (v := (-9)) hx hb dX5_readBoy_72 (by decide) ?_
      refine lv_icmp_ne (tgt := 79) hx hb dX5_readBoy_74 (by decide) (fun c9 => ?_) (fun c9 => ?_)
      ·
        refine lv_aload_n hx hb dX5_readBoy_79 rfl (lv_at hl 1 rfl) ?_
        refine lv_dup hx hb dX5_readBoy_80 rfl ?_
        refine g_get (v := .int (nI q)) hx hb hts ixX5_readBoy_X5 hown hK hP 0 rfl rfl 10 (by decide) lkX5_readBoy_71 rfl dX5_readBoy_81 ?_
        refine lv_iconst (v := nI 1) hx hb dX5_readBoy_84 (by decide) ?_
        refine lv_iadd hx hb dX5_readBoy_85 ?_
        refine lv_tope (show (nI q) + (nI 1) = nI (q + 1) from nI_add _ _) ?_
        refine g_put (v := (nI (q + 1))) hx hb hts ixX5_readBoy_X5 tyX5 tyX5_ok nmX5 hown hK hP hD hS 0 rfl rfl 10 (by decide) lkX5_readBoy_71 rfl rfl (Nat.le_of_ble_eq_true rfl) dX5_readBoy_86 (fun H locs hP hD hS => ?_)
        have hP : va_P G.1 vwCl [(o, .inr (5, [.int ff, .int ftr, .ref aso, .ref asl, .ref ace, .int (nI M), .int (nI B), .ref ape, .ref aki, .ref abo, .int (nI (q + 1)), .int (nI M9), .int (nI c0), .ref arp, .ref ark, .ref arb, .int fb, .int fto, .int (nI R), .ref awh, .ref awn, .ref awm, .ref awk, .ref amo, .ref amu])), (ace, aI G 240 CE), (ark, aI G 4 (upd RK c0 (nI (k9 (CE q))))), (arb, aI G 4 RB)] H := hP
        have hD : va_D A [(o, .inr (5, [.int ff, .int ftr, .ref aso, .ref asl, .ref ace, .int (nI M), .int (nI B), .ref ape, .ref aki, .ref abo, .int (nI (q + 1)), .int (nI M9), .int (nI c0), .ref arp, .ref ark, .ref arb, .int fb, .int fto, .int (nI R), .ref awh, .ref awn, .ref awm, .ref awk, .ref amo, .ref amu])), (ace, aI G 240 CE), (ark, aI G 4 (upd RK c0 (nI (k9 (CE q))))), (arb, aI G 4 RB)] := hD
        refine lv_aload_n hx hb dX5_readBoy_89 rfl (lv_at hl 1 rfl) ?_
        refine g_get (v := .ref arb) hx hb hts ixX5_readBoy_X5 hown hK hP 0 rfl rfl 15 (by decide) lkX5_readBoy_34 rfl dX5_readBoy_90 ?_
        refine lv_aload_n hx hb dX5_readBoy_93 rfl (lv_at hl 1 rfl) ?_
        refine g_get (v := .int (nI c0)) hx hb hts ixX5_readBoy_X5 hown hK hP 0 rfl rfl 12 (by decide) lkX5_readBoy_95 rfl dX5_readBoy_94 ?_
        refine lv_aload_n hx hb dX5_readBoy_97 rfl (lv_at hl 1 rfl) ?_
        refine lv_iload_n hx hb dX5_readBoy_98 rfl (lv_at hl 2 rfl) ?_
        refine lv_iconst (v := nI 0) hx hb dX5_readBoy_99 (by decide) ?_
        refine lv_aload_n hx hb dX5_readBoy_100 rfl (lv_at hl 1 rfl) ?_
        refine g_get (v := .int (nI M9)) hx hb hts ixX5_readBoy_X5 hown hK hP 0 rfl rfl 11 (by decide) lkX5_readBoy_92 rfl dX5_readBoy_101 ?_
        refine lv_iconst (v := nI 1) hx hb dX5_readBoy_104 (by decide) ?_
        refine lv_isub hx hb dX5_readBoy_105 ?_
        refine lv_tope (show (nI M9) - (nI 1) = nI (M9 - 1) from pk_sub (by omega)) ?_
        refine wtV (As := [.int (nI z), .int (nI 0), .int (nI (M9 - 1))]) (rest := [.int (nI c0), .ref arb]) (ci := 5) (q0 := 0) hE (kX5_digitn l G o ff ftr aso asl ace M B ape aki abo (nI M9) (nI c0) arp ark arb fb fto R awh awn awm awk amo amu CE (q + 1) z 0 (M9 - 1) hno hz2 (by omega)) (cwV 3 hts gX5_readBoy_X5_digit rfl rfl rfl (by decide +kernel) ⟨Nat.le_of_ble_eq_true rfl, Nat.le_of_ble_eq_true rfl⟩) hP hK hD hS [0, 1] (by decide) rfl (Eq.trans (b := [o, ace]) rfl rfl) (W1 := [(o, .inr (5, [.int ff, .int ftr, .ref aso, .ref asl, .ref ace, .int (nI M), .int (nI B), .ref ape, .ref aki, .ref abo, .int (nI (q + 1)), .int (nI M9), .int (nI c0), .ref arp, .ref ark, .ref arb, .int fb, .int fto, .int (nI R), .ref awh, .ref awn, .ref awm, .ref awk, .ref amo, .ref amu])), (ace, aI G 240 CE), (ark, aI G 4 (upd RK c0 (nI (k9 (CE q))))), (arb, aI G 4 RB)]) rfl rfl rfl rfl hl.1 rfl (Nat.le_of_ble_eq_true rfl) dX5_readBoy_106 ⟨Nat.zero_le _, Nat.zero_le _⟩ (fun H locs hP hD hS => ?_)
        refine W.eq (g2 := F0 m 109 ls [.int (-9), .int (nI c0), .ref arb]) rfl ?_
        refine n_ast hx hb hK hP hD hS 3 rfl (k := c0) (by omega) (by decide) dX5_readBoy_109 (fun H locs hP hD hS => ?_)
        have hP : va_P G.1 vwCl [(o, .inr (5, [.int ff, .int ftr, .ref aso, .ref asl, .ref ace, .int (nI M), .int (nI B), .ref ape, .ref aki, .ref abo, .int (nI (q + 1)), .int (nI M9), .int (nI c0), .ref arp, .ref ark, .ref arb, .int fb, .int fto, .int (nI R), .ref awh, .ref awn, .ref awm, .ref awk, .ref amo, .ref amu])), (ace, aI G 240 CE), (ark, aI G 4 (upd RK c0 (nI (k9 (CE q))))), (arb, aI G 4 (upd RB c0 (-9)))] H := hP
        have hD : va_D A [(o, .inr (5, [.int ff, .int ftr, .ref aso, .ref asl, .ref ace, .int (nI M), .int (nI B), .ref ape, .ref aki, .ref abo, .int (nI (q + 1)), .int (nI M9), .int (nI c0), .ref arp, .ref ark, .ref arb, .int fb, .int fto, .int (nI R), .ref awh, .ref awn, .ref awm, .ref awk, .ref amo, .ref amu])), (ace, aI G 240 CE), (ark, aI G 4 (upd RK c0 (nI (k9 (CE q))))), (arb, aI G 4 (upd RB c0 (-9)))] := hD
        refine lv_aload_n hx hb dX5_readBoy_110 rfl (lv_at hl 1 rfl) ?_
        refine lv_dup hx hb dX5_readBoy_111 rfl ?_
        refine g_get (v := .int (nI c0)) hx hb hts ixX5_readBoy_X5 hown hK hP 0 rfl rfl 12 (by decide) lkX5_readBoy_95 rfl dX5_readBoy_112 ?_
        refine lv_iconst (v := nI 1) hx hb dX5_readBoy_115 (by decide) ?_
        refine lv_iadd hx hb dX5_readBoy_116 ?_
        refine lv_tope (show (nI c0) + (nI 1) = nI (c0 + 1) from nI_add _ _) ?_
        refine g_put (v := (nI (c0 + 1))) hx hb hts ixX5_readBoy_X5 tyX5 tyX5_ok nmX5 hown hK hP hD hS 0 rfl rfl 12 (by decide) lkX5_readBoy_95 rfl rfl (Nat.le_of_ble_eq_true rfl) dX5_readBoy_117 (fun H locs hP hD hS => ?_)
        have hP : va_P G.1 vwCl [(o, .inr (5, [.int ff, .int ftr, .ref aso, .ref asl, .ref ace, .int (nI M), .int (nI B), .ref ape, .ref aki, .ref abo, .int (nI (q + 1)), .int (nI M9), .int (nI (c0 + 1)), .ref arp, .ref ark, .ref arb, .int fb, .int fto, .int (nI R), .ref awh, .ref awn, .ref awm, .ref awk, .ref amo, .ref amu])), (ace, aI G 240 CE), (ark, aI G 4 (upd RK c0 (nI (k9 (CE q))))), (arb, aI G 4 (upd RB c0 (-9)))] H := hP
        have hD : va_D A [(o, .inr (5, [.int ff, .int ftr, .ref aso, .ref asl, .ref ace, .int (nI M), .int (nI B), .ref ape, .ref aki, .ref abo, .int (nI (q + 1)), .int (nI M9), .int (nI (c0 + 1)), .ref arp, .ref ark, .ref arb, .int fb, .int fto, .int (nI R), .ref awh, .ref awn, .ref awm, .ref awk, .ref amo, .ref amu])), (ace, aI G 240 CE), (ark, aI G 4 (upd RK c0 (nI (k9 (CE q))))), (arb, aI G 4 (upd RB c0 (-9)))] := hD
        refine lv_aload_n hx hb dX5_readBoy_120 rfl (lv_at hl 1 rfl) ?_
        refine g_get (v := .ref arb) hx hb hts ixX5_readBoy_X5 hown hK hP 0 rfl rfl 15 (by decide) lkX5_readBoy_34 rfl dX5_readBoy_121 ?_
        refine lv_aload_n hx hb dX5_readBoy_124 rfl (lv_at hl 1 rfl) ?_
        refine g_get (v := .int (nI (c0 + 1))) hx hb hts ixX5_readBoy_X5 hown hK hP 0 rfl rfl 12 (by decide) lkX5_readBoy_95 rfl dX5_readBoy_125 ?_
        refine lv_iconst (v := nI 1) hx hb dX5_readBoy_128 (by decide) ?_
        refine lv_isub hx hb dX5_readBoy_129 ?_
        refine lv_tope (show (nI (c0 + 1)) - (nI 1) = nI ((c0 + 1) - 1) from pk_sub (by omega)) ?_
        refine n_ald hx hb hK hP 3 rfl (k := (c0 + 1) - 1) (by omega) (by decide) dX5_readBoy_130 ?_
        refine lv_tope (show (upd RB c0 (-9)) ((c0 + 1) - 1) = (-9) from upS _ _ _) ?_
        refine lv_bipush (v := (-9)) hx hb dX5_readBoy_131 (by decide) ?_
        refine lv_icmp_eq (tgt := 140) hx hb dX5_readBoy_133 (by decide) (fun c10 => ?_) (fun c10 => ?_)
        ·
          refine lv_iconst (v := nI 0) hx hb dX5_readBoy_140 (by decide) ?_
          exact hret _ _ _ _ _ ((bI_f id).symm) (hP) hS dX5_readBoy_141
        ·
          exact absurd rfl c10
      ·
        exact absurd c9 (nI_n9 (by omega))
