theorem ixX5_fault_X5 : ∀ w ∈ wsX50, w ∈ wsX5_fault := fun _ h => List.mem_cons_of_mem _ (List.mem_append_right _ h)
theorem lkX5_fault_55 : Cond.fieldLink RX5 55 (TX5 0).1 (TX5 0).2.1 (TX5 0).2.2.1 ∈ wsX5_fault := List.mem_of_getElem? (i := 1) rfl
set_option maxHeartbeats 4000000 in
set_option maxRecDepth 100000 in
theorem kX5_fault (l : Launch) (G : Gl) (o : Nat) (ff : Int32) (ftr : Int32) (aso : Nat) (asl : Nat) (ace : Nat) (M : Nat) (B : Nat) (ape : Nat) (aki : Nat) (abo : Nat) (at_ : Int32) (rM : Int32) (rB : Int32) (arp : Nat) (ark : Nat) (arb : Nat) (fb : Int32) (fto : Int32) (R : Nat) (awh : Nat) (awn : Nat) (awm : Nat) (awk : Nat) (amo : Nat) (amu : Nat) : Rd l G yX5_fault wsX5_fault ({ frames := 0, cells := 0, slots := 0, locals := 0 } : Room) [.ref o] [(o, .inr (5, [.int ff, .int ftr, .ref aso, .ref asl, .ref ace, .int (nI M), .int (nI B), .ref ape, .ref aki, .ref abo, .int at_, .int rM, .int rB, .ref arp, .ref ark, .ref arb, .int fb, .int fto, .int (nI R), .ref awh, .ref awn, .ref awm, .ref awk, .ref amo, .ref amu]))] (some (.int ff)) := by
  refine Rd.ofI (cc := cX5_fault) (maxL := 1) (by decide) rfl (Nat.le_of_ble_eq_true rfl) ?_
  intro p e s m below meth c Q ls hE hP hK hl hret
  obtain ⟨hx, hb, hml, hown, hts⟩ := id hE
  have hl : lv_has ls 1 [(0, .ref o)] := hl
  refine lv_aload_n hx hb dX5_fault_0 rfl (lv_at hl 0 rfl) ?_
  refine g_get (v := .int ff) hx hb hts ixX5_fault_X5 hown hK hP 0 rfl rfl 0 (by decide) lkX5_fault_55 rfl dX5_fault_1 ?_
  exact hret _ _ _ (by first | with_reducible rfl | (simp only []; done) | contradiction) dX5_fault_4

theorem ixX5_tell_X5 : ∀ w ∈ wsX50, w ∈ wsX5_tell := fun _ h => List.mem_cons_of_mem _ (List.mem_append_right _ h)
theorem lkX5_tell_25 : Cond.fieldLink RX5 25 (TX5 9).1 (TX5 9).2.1 (TX5 9).2.2.1 ∈ wsX5_tell := List.mem_of_getElem? (i := 1) rfl
theorem lkX5_tell_22 : Cond.fieldLink RX5 22 (TX5 8).1 (TX5 8).2.1 (TX5 8).2.2.1 ∈ wsX5_tell := List.mem_of_getElem? (i := 2) rfl
set_option maxHeartbeats 4000000 in
set_option maxRecDepth 100000 in
theorem kX5_tell (l : Launch) (G : Gl) (o : Nat) (ff : Int32) (ftr : Int32) (aso : Nat) (asl : Nat) (ace : Nat) (M : Nat) (B : Nat) (ape : Nat) (aki : Nat) (abo : Nat) (at_ : Int32) (rM : Int32) (rB : Int32) (arp : Nat) (ark : Nat) (arb : Nat) (fb : Int32) (fto : Int32) (R : Nat) (awh : Nat) (awn : Nat) (awm : Nat) (awk : Nat) (amo : Nat) (amu : Nat) (K : Nat → Int32) (U : Nat → Int32) (b : Int32) (hB : B ≤ 4) : Wt l G yX5_tell wsX5_tell ({ frames := 1, cells := 0, slots := 0, locals := 21 } : Room) [.ref o, .int b] [(o, .inr (5, [.int ff, .int ftr, .ref aso, .ref asl, .ref ace, .int (nI M), .int (nI B), .ref ape, .ref aki, .ref abo, .int at_, .int rM, .int rB, .ref arp, .ref ark, .ref arb, .int fb, .int fto, .int (nI R), .ref awh, .ref awn, .ref awm, .ref awk, .ref amo, .ref amu])), (aki, aI G 4 K), (abo, aI G 4 U)] [(o, .inr (5, [.int ff, .int (t_tell B K ftr b), .ref aso, .ref asl, .ref ace, .int (nI M), .int (nI B), .ref ape, .ref aki, .ref abo, .int at_, .int rM, .int rB, .ref arp, .ref ark, .ref arb, .int fb, .int fto, .int (nI R), .ref awh, .ref awn, .ref awm, .ref awk, .ref amo, .ref amu])), (aki, aI G 4 K), (abo, aI G 4 U)] (some (.int (s_tell B K U b))) := by
  refine Wt.ofI (cc := cX5_tell) (maxL := 3) (by decide) rfl (Nat.le_of_ble_eq_true rfl) ?_
  intro p e s m below meth c Q A ls hE hP hK hD hS hl hret
  obtain ⟨hx, hb, hml, hown, hts⟩ := id hE
  have hl : lv_has ls 3 [(0, .ref o), (1, .int b)] := hl
  refine lv_aload_n hx hb dX5_tell_0 rfl (lv_at hl 0 rfl) ?_
  refine lv_iload_n hx hb dX5_tell_1 rfl (lv_at hl 1 rfl) ?_
  refine rdV (As := [.int b]) (rest := []) (ci := 5) (q0 := 0) hE (kX5_isBoy l G o ff ftr aso asl ace M B ape aki abo at_ rM rB arp ark arb fb fto R awh awn awm awk amo amu b hB) (cwV 1 hts gX5_tell_X5_isBoy rfl rfl rfl (by decide +kernel) ⟨Nat.le_of_ble_eq_true rfl, Nat.le_of_ble_eq_true rfl⟩) hP hK [0] rfl rfl rfl rfl hl.1 rfl (Nat.le_of_ble_eq_true rfl) dX5_tell_2 ⟨Nat.zero_le _, Nat.zero_le _⟩ ?_
  refine W.eq (g2 := F0 m 5 ls [.int (bI (vp_in b B))]) rfl ?_
  refine bz_ne (tgt := 10) hx hb dX5_tell_5 (by decide) (fun c1 => ?_) (fun c1 => ?_)
  ·
    obtain ⟨jb, hjb, rfl⟩ := vp_in_of c1 (by omega)
    refine lv_aload_n hx hb dX5_tell_10 rfl (lv_at hl 0 rfl) ?_
    refine g_get (v := .ref abo) hx hb hts ixX5_tell_X5 hown hK hP 0 rfl rfl 9 (by decide) lkX5_tell_25 rfl dX5_tell_11 ?_
    refine lv_iload_n hx hb dX5_tell_14 rfl (lv_at hl 1 rfl) ?_
    refine n_ald hx hb hK hP 2 rfl (k := jb) (by omega) (by decide) dX5_tell_15 ?_
    refine lv_istore_n (lv' := [(2, .int (U jb)), (0, .ref o), (1, .int (nI jb))]) hx hb dX5_tell_16 rfl hl (by decide) rfl (fun ls hl => ?_)
    refine lv_aload_n hx hb dX5_tell_17 rfl (lv_at hl 1 rfl) ?_
    refine g_get (v := .ref aki) hx hb hts ixX5_tell_X5 hown hK hP 0 rfl rfl 8 (by decide) lkX5_tell_22 rfl dX5_tell_18 ?_
    refine lv_iload_n hx hb dX5_tell_21 rfl (lv_at hl 2 rfl) ?_
    refine n_ald hx hb hK hP 1 rfl (k := jb) (by omega) (by decide) dX5_tell_22 ?_
    by_cases c2 : K jb = 1
    ·
      refine lv_lookup (tgt := 48) (off := 25) hx hb dX5_tell_23 (by decide) (by rw [c2]; decide) (by decide) ?_
      refine lv_aload_n hx hb dX5_tell_48 rfl (lv_at hl 1 rfl) ?_
      refine lv_iconst (v := nI 2) hx hb dX5_tell_49 (by decide) ?_
      refine wtV (As := [.int (nI 2)]) (rest := []) (ci := 5) (q0 := 0) hE (kX5_begins l G o ff ftr aso asl ace M B ape aki abo at_ rM rB arp ark arb fb fto R awh awn awm awk amo amu (nI 2) ) (cwV 1 hts gX5_tell_X5_begins rfl rfl rfl (by decide +kernel) ⟨Nat.le_of_ble_eq_true rfl, Nat.le_of_ble_eq_true rfl⟩) hP hK hD hS [0] (by decide) rfl (Eq.trans (b := [o]) rfl rfl) (W1 := [(o, .inr (5, [.int ff, .int (lt1 ftr (nI 2)), .ref aso, .ref asl, .ref ace, .int (nI M), .int (nI B), .ref ape, .ref aki, .ref abo, .int at_, .int rM, .int rB, .ref arp, .ref ark, .ref arb, .int fb, .int fto, .int (nI R), .ref awh, .ref awn, .ref awm, .ref awk, .ref amo, .ref amu])), (aki, aI G 4 K), (abo, aI G 4 U)]) rfl rfl rfl rfl hl.1 rfl (Nat.le_of_ble_eq_true rfl) dX5_tell_50 ⟨Nat.zero_le _, Nat.zero_le _⟩ (fun H locs hP hD hS => ?_)
      refine W.eq (g2 := F0 m 53 ls []) rfl ?_
      refine lv_aload_n hx hb dX5_tell_53 rfl (lv_at hl 1 rfl) ?_
      refine lv_iconst (v := nI 1) hx hb dX5_tell_54 (by decide) ?_
      refine wtV (As := [.int (nI 1)]) (rest := []) (ci := 5) (q0 := 0) hE (kX5_begins l G o ff (lt1 ftr (nI 2)) aso asl ace M B ape aki abo at_ rM rB arp ark arb fb fto R awh awn awm awk amo amu (nI 1) ) (cwV 1 hts gX5_tell_X5_begins rfl rfl rfl (by decide +kernel) ⟨Nat.le_of_ble_eq_true rfl, Nat.le_of_ble_eq_true rfl⟩) hP hK hD hS [0] (by decide) rfl (Eq.trans (b := [o]) rfl rfl) (W1 := [(o, .inr (5, [.int ff, .int (lt1 (lt1 ftr (nI 2)) (nI 1)), .ref aso, .ref asl, .ref ace, .int (nI M), .int (nI B), .ref ape, .ref aki, .ref abo, .int at_, .int rM, .int rB, .ref arp, .ref ark, .ref arb, .int fb, .int fto, .int (nI R), .ref awh, .ref awn, .ref awm, .ref awk, .ref amo, .ref amu])), (aki, aI G 4 K), (abo, aI G 4 U)]) rfl rfl rfl rfl hl.1 rfl (Nat.le_of_ble_eq_true rfl) dX5_tell_55 ⟨Nat.zero_le _, Nat.zero_le _⟩ (fun H locs hP hD hS => ?_)
      refine W.eq (g2 := F0 m 58 ls []) rfl ?_
      refine lv_iload_n hx hb dX5_tell_58 rfl (lv_at hl 0 rfl) ?_
      refine lv_bipush (v := nI 100) hx hb dX5_tell_59 (by decide) ?_
      refine lv_iadd hx hb dX5_tell_61 ?_
      exact hret _ _ _ _ _ (by first | with_reducible rfl | (simp only [s_tell, t_tell, tel, trc, iF_t c1, iF_t c2, tn_nI (show jb < 2 ^ 31 by omega)]; done) | contradiction) (by first | with_reducible exact hP | (simp only [s_tell, t_tell, tel, trc, iF_t c1, iF_t c2, tn_nI (show jb < 2 ^ 31 by omega)]; with_reducible exact hP) | contradiction | (simp only [s_tell, t_tell, tel, trc, iF_t c1, iF_t c2, tn_nI (show jb < 2 ^ 31 by omega)]; exact hP) | exact hP) hS dX5_tell_62
    ·
      by_cases c3 : K jb = 2
      ·
        refine lv_lookup (tgt := 63) (off := 40) hx hb dX5_tell_23 (by decide) (by rw [c3]; decide) (by decide) ?_
        refine lv_aload_n hx hb dX5_tell_63 rfl (lv_at hl 1 rfl) ?_
        refine lv_iconst (v := nI 3) hx hb dX5_tell_64 (by decide) ?_
        refine wtV (As := [.int (nI 3)]) (rest := []) (ci := 5) (q0 := 0) hE (kX5_begins l G o ff ftr aso asl ace M B ape aki abo at_ rM rB arp ark arb fb fto R awh awn awm awk amo amu (nI 3) ) (cwV 1 hts gX5_tell_X5_begins rfl rfl rfl (by decide +kernel) ⟨Nat.le_of_ble_eq_true rfl, Nat.le_of_ble_eq_true rfl⟩) hP hK hD hS [0] (by decide) rfl (Eq.trans (b := [o]) rfl rfl) (W1 := [(o, .inr (5, [.int ff, .int (lt1 ftr (nI 3)), .ref aso, .ref asl, .ref ace, .int (nI M), .int (nI B), .ref ape, .ref aki, .ref abo, .int at_, .int rM, .int rB, .ref arp, .ref ark, .ref arb, .int fb, .int fto, .int (nI R), .ref awh, .ref awn, .ref awm, .ref awk, .ref amo, .ref amu])), (aki, aI G 4 K), (abo, aI G 4 U)]) rfl rfl rfl rfl hl.1 rfl (Nat.le_of_ble_eq_true rfl) dX5_tell_65 ⟨Nat.zero_le _, Nat.zero_le _⟩ (fun H locs hP hD hS => ?_)
        refine W.eq (g2 := F0 m 68 ls []) rfl ?_
        refine lv_aload_n hx hb dX5_tell_68 rfl (lv_at hl 1 rfl) ?_
        refine lv_iconst (v := nI 2) hx hb dX5_tell_69 (by decide) ?_
        refine wtV (As := [.int (nI 2)]) (rest := []) (ci := 5) (q0 := 0) hE (kX5_begins l G o ff (lt1 ftr (nI 3)) aso asl ace M B ape aki abo at_ rM rB arp ark arb fb fto R awh awn awm awk amo amu (nI 2) ) (cwV 1 hts gX5_tell_X5_begins rfl rfl rfl (by decide +kernel) ⟨Nat.le_of_ble_eq_true rfl, Nat.le_of_ble_eq_true rfl⟩) hP hK hD hS [0] (by decide) rfl (Eq.trans (b := [o]) rfl rfl) (W1 := [(o, .inr (5, [.int ff, .int (lt1 (lt1 ftr (nI 3)) (nI 2)), .ref aso, .ref asl, .ref ace, .int (nI M), .int (nI B), .ref ape, .ref aki, .ref abo, .int at_, .int rM, .int rB, .ref arp, .ref ark, .ref arb, .int fb, .int fto, .int (nI R), .ref awh, .ref awn, .ref awm, .ref awk, .ref amo, .ref amu])), (aki, aI G 4 K), (abo, aI G 4 U)]) rfl rfl rfl rfl hl.1 rfl (Nat.le_of_ble_eq_true rfl) dX5_tell_70 ⟨Nat.zero_le _, Nat.zero_le _⟩ (fun H locs hP hD hS => ?_)
        refine W.eq (g2 := F0 m 73 ls []) rfl ?_
        refine lv_aload_n hx hb dX5_tell_73 rfl (lv_at hl 1 rfl) ?_
        refine lv_iconst (v := nI 1) hx hb dX5_tell_74 (by decide) ?_
        refine wtV (As := [.int (nI 1)]) (rest := []) (ci := 5) (q0 := 0) hE (kX5_begins l G o ff (lt1 (lt1 ftr (nI 3)) (nI 2)) aso asl ace M B ape aki abo at_ rM rB arp ark arb fb fto R awh awn awm awk amo amu (nI 1) ) (cwV 1 hts gX5_tell_X5_begins rfl rfl rfl (by decide +kernel) ⟨Nat.le_of_ble_eq_true rfl, Nat.le_of_ble_eq_true rfl⟩) hP hK hD hS [0] (by decide) rfl (Eq.trans (b := [o]) rfl rfl) (W1 := [(o, .inr (5, [.int ff, .int (lt1 (lt1 (lt1 ftr (nI 3)) (nI 2)) (nI 1)), .ref aso, .ref asl, .ref ace, .int (nI M), .int (nI B), .ref ape, .ref aki, .ref abo, .int at_, .int rM, .int rB, .ref arp, .ref ark, .ref arb, .int fb, .int fto, .int (nI R), .ref awh, .ref awn, .ref awm, .ref awk, .ref amo, .ref amu])), (aki, aI G 4 K), (abo, aI G 4 U)]) rfl rfl rfl rfl hl.1 rfl (Nat.le_of_ble_eq_true rfl) dX5_tell_75 ⟨Nat.zero_le _, Nat.zero_le _⟩ (fun H locs hP hD hS => ?_)
        refine W.eq (g2 := F0 m 78 ls []) rfl ?_
        refine lv_aload_n hx hb dX5_tell_78 rfl (lv_at hl 1 rfl) ?_
        refine lv_iconst (v := nI 1) hx hb dX5_tell_79 (by decide) ?_
        refine wtV (As := [.int (nI 1)]) (rest := []) (ci := 5) (q0 := 0) hE (kX5_begins l G o ff (lt1 (lt1 (lt1 ftr (nI 3)) (nI 2)) (nI 1)) aso asl ace M B ape aki abo at_ rM rB arp ark arb fb fto R awh awn awm awk amo amu (nI 1) ) (cwV 1 hts gX5_tell_X5_begins rfl rfl rfl (by decide +kernel) ⟨Nat.le_of_ble_eq_true rfl, Nat.le_of_ble_eq_true rfl⟩) hP hK hD hS [0] (by decide) rfl (Eq.trans (b := [o]) rfl rfl) (W1 := [(o, .inr (5, [.int ff, .int (lt1 (lt1 (lt1 (lt1 ftr (nI 3)) (nI 2)) (nI 1)) (nI 1)), .ref aso, .ref asl, .ref ace, .int (nI M), .int (nI B), .ref ape, .ref aki, .ref abo, .int at_, .int rM, .int rB, .ref arp, .ref ark, .ref arb, .int fb, .int fto, .int (nI R), .ref awh, .ref awn, .ref awm, .ref awk, .ref amo, .ref amu])), (aki, aI G 4 K), (abo, aI G 4 U)]) rfl rfl rfl rfl hl.1 rfl (Nat.le_of_ble_eq_true rfl) dX5_tell_80 ⟨Nat.zero_le _, Nat.zero_le _⟩ (fun H locs hP hD hS => ?_)
        refine W.eq (g2 := F0 m 83 ls []) rfl ?_
        refine lv_iconst (v := nI 2) hx hb dX5_tell_83 (by decide) ?_
        refine lv_iload_n hx hb dX5_tell_84 rfl (lv_at hl 0 rfl) ?_
        refine lv_imul hx hb dX5_tell_85 ?_
        refine lv_bipush (v := nI 100) hx hb dX5_tell_86 (by decide) ?_
        refine lv_iadd hx hb dX5_tell_88 ?_
        exact hret _ _ _ _ _ ((tw_eq _).trans (by simp only [s_tell, t_tell, tel, trc, iF_t c1, iF_f c2, iF_t c3, tn_nI (show jb < 2 ^ 31 by omega)])) (by first | with_reducible exact hP | (simp only [s_tell, t_tell, tel, trc, iF_t c1, iF_f c2, iF_t c3, tn_nI (show jb < 2 ^ 31 by omega)]; with_reducible exact hP) | contradiction | (simp only [s_tell, t_tell, tel, trc, iF_t c1, iF_f c2, iF_t c3, tn_nI (show jb < 2 ^ 31 by omega)]; exact hP) | exact hP) hS dX5_tell_89
      ·
        refine lv_lookup (tgt := 90) (off := 67) hx hb dX5_tell_23 (by decide) (by rw [lv_osw (k := 1) c2 (by decide), lv_osw (k := 2) c3 (by decide)]; rfl) (by decide) ?_
        refine lv_aload_n hx hb dX5_tell_90 rfl (lv_at hl 1 rfl) ?_
        refine lv_iconst (v := nI 1) hx hb dX5_tell_91 (by decide) ?_
        refine wtV (As := [.int (nI 1)]) (rest := []) (ci := 5) (q0 := 0) hE (kX5_begins l G o ff ftr aso asl ace M B ape aki abo at_ rM rB arp ark arb fb fto R awh awn awm awk amo amu (nI 1) ) (cwV 1 hts gX5_tell_X5_begins rfl rfl rfl (by decide +kernel) ⟨Nat.le_of_ble_eq_true rfl, Nat.le_of_ble_eq_true rfl⟩) hP hK hD hS [0] (by decide) rfl (Eq.trans (b := [o]) rfl rfl) (W1 := [(o, .inr (5, [.int ff, .int (lt1 ftr (nI 1)), .ref aso, .ref asl, .ref ace, .int (nI M), .int (nI B), .ref ape, .ref aki, .ref abo, .int at_, .int rM, .int rB, .ref arp, .ref ark, .ref arb, .int fb, .int fto, .int (nI R), .ref awh, .ref awn, .ref awm, .ref awk, .ref amo, .ref amu])), (aki, aI G 4 K), (abo, aI G 4 U)]) rfl rfl rfl rfl hl.1 rfl (Nat.le_of_ble_eq_true rfl) dX5_tell_92 ⟨Nat.zero_le _, Nat.zero_le _⟩ (fun H locs hP hD hS => ?_)
        refine W.eq (g2 := F0 m 95 ls []) rfl ?_
        refine lv_iload_n hx hb dX5_tell_95 rfl (lv_at hl 0 rfl) ?_
        exact hret _ _ _ _ _ (by first | with_reducible rfl | (simp only [s_tell, t_tell, tel, trc, iF_t c1, iF_f c2, iF_f c3, tn_nI (show jb < 2 ^ 31 by omega)]; done) | contradiction) (by first | with_reducible exact hP | (simp only [s_tell, t_tell, tel, trc, iF_t c1, iF_f c2, iF_f c3, tn_nI (show jb < 2 ^ 31 by omega)]; with_reducible exact hP) | contradiction | (simp only [s_tell, t_tell, tel, trc, iF_t c1, iF_f c2, iF_f c3, tn_nI (show jb < 2 ^ 31 by omega)]; exact hP) | exact hP) hS dX5_tell_96
  ·
    refine lv_iconst (v := (-1)) hx hb dX5_tell_8 (by decide) ?_
    exact hret _ _ _ _ _ (by first | with_reducible rfl | (simp only [s_tell, t_tell, tel, trc, iF_f c1]; done) | contradiction) (by first | with_reducible exact hP | (simp only [s_tell, t_tell, tel, trc, iF_f c1]; with_reducible exact hP) | contradiction | (simp only [s_tell, t_tell, tel, trc, iF_f c1]; exact hP) | exact hP) hS dX5_tell_9

theorem ixX5_call_X5 : ∀ w ∈ wsX50, w ∈ wsX5_call := fun _ h => List.mem_cons_of_mem _ (List.mem_append_right _ h)
theorem lkX5_call_22 : Cond.fieldLink RX5 22 (TX5 8).1 (TX5 8).2.1 (TX5 8).2.2.1 ∈ wsX5_call := List.mem_of_getElem? (i := 1) rfl
set_option maxHeartbeats 4000000 in
set_option maxRecDepth 100000 in
theorem kX5_call (l : Launch) (G : Gl) (o : Nat) (ff : Int32) (ftr : Int32) (aso : Nat) (asl : Nat) (ace : Nat) (M : Nat) (B : Nat) (ape : Nat) (aki : Nat) (abo : Nat) (at_ : Int32) (rM : Int32) (rB : Int32) (arp : Nat) (ark : Nat) (arb : Nat) (fb : Int32) (fto : Int32) (R : Nat) (awh : Nat) (awn : Nat) (awm : Nat) (awk : Nat) (amo : Nat) (amu : Nat) (K : Nat → Int32) (b : Int32) (hB : B ≤ 4) : Wt l G yX5_call wsX5_call ({ frames := 1, cells := 0, slots := 0, locals := 21 } : Room) [.ref o, .int b] [(o, .inr (5, [.int ff, .int ftr, .ref aso, .ref asl, .ref ace, .int (nI M), .int (nI B), .ref ape, .ref aki, .ref abo, .int at_, .int rM, .int rB, .ref arp, .ref ark, .ref arb, .int fb, .int fto, .int (nI R), .ref awh, .ref awn, .ref awm, .ref awk, .ref amo, .ref amu])), (aki, aI G 4 K)] [(o, .inr (5, [.int ff, .int (t_call B K ftr b), .ref aso, .ref asl, .ref ace, .int (nI M), .int (nI B), .ref ape, .ref aki, .ref abo, .int at_, .int rM, .int rB, .ref arp, .ref ark, .ref arb, .int fb, .int fto, .int (nI R), .ref awh, .ref awn, .ref awm, .ref awk, .ref amo, .ref amu])), (aki, aI G 4 K)] (some (.int (s_call B K b))) := by
  refine Wt.ofI (cc := cX5_call) (maxL := 2) (by decide) rfl (Nat.le_of_ble_eq_true rfl) ?_
  intro p e s m below meth c Q A ls hE hP hK hD hS hl hret
  obtain ⟨hx, hb, hml, hown, hts⟩ := id hE
  have hl : lv_has ls 2 [(0, .ref o), (1, .int b)] := hl
  refine lv_aload_n hx hb dX5_call_0 rfl (lv_at hl 0 rfl) ?_
  refine lv_iload_n hx hb dX5_call_1 rfl (lv_at hl 1 rfl) ?_
  refine rdV (As := [.int b]) (rest := []) (ci := 5) (q0 := 0) hE (kX5_isBoy l G o ff ftr aso asl ace M B ape aki abo at_ rM rB arp ark arb fb fto R awh awn awm awk amo amu b hB) (cwV 1 hts gX5_call_X5_isBoy rfl rfl rfl (by decide +kernel) ⟨Nat.le_of_ble_eq_true rfl, Nat.le_of_ble_eq_true rfl⟩) hP hK [0] rfl rfl rfl rfl hl.1 rfl (Nat.le_of_ble_eq_true rfl) dX5_call_2 ⟨Nat.zero_le _, Nat.zero_le _⟩ ?_
  refine W.eq (g2 := F0 m 5 ls [.int (bI (vp_in b B))]) rfl ?_
  refine bz_ne (tgt := 10) hx hb dX5_call_5 (by decide) (fun c1 => ?_) (fun c1 => ?_)
  ·
    obtain ⟨jb, hjb, rfl⟩ := vp_in_of c1 (by omega)
    refine lv_aload_n hx hb dX5_call_10 rfl (lv_at hl 0 rfl) ?_
    refine lv_aload_n hx hb dX5_call_11 rfl (lv_at hl 0 rfl) ?_
    refine g_get (v := .ref aki) hx hb hts ixX5_call_X5 hown hK hP 0 rfl rfl 8 (by decide) lkX5_call_22 rfl dX5_call_12 ?_
    refine lv_iload_n hx hb dX5_call_15 rfl (lv_at hl 1 rfl) ?_
    refine n_ald hx hb hK hP 1 rfl (k := jb) (by omega) (by decide) dX5_call_16 ?_
    refine lv_iconst (v := nI 2) hx hb dX5_call_17 (by decide) ?_
    refine lv_icmp_ne (tgt := 25) hx hb dX5_call_18 (by decide) (fun c2 => ?_) (fun c2 => ?_)
    ·
      refine lv_iconst (v := nI 4) hx hb dX5_call_25 (by decide) ?_
      refine wtV (As := [.int (nI 4)]) (rest := []) (ci := 5) (q0 := 0) hE (kX5_begins l G o ff ftr aso asl ace M B ape aki abo at_ rM rB arp ark arb fb fto R awh awn awm awk amo amu (nI 4) ) (cwV 1 hts gX5_call_X5_begins rfl rfl rfl (by decide +kernel) ⟨Nat.le_of_ble_eq_true rfl, Nat.le_of_ble_eq_true rfl⟩) hP hK hD hS [0] (by decide) rfl (Eq.trans (b := [o]) rfl rfl) (W1 := [(o, .inr (5, [.int ff, .int (lt1 ftr (nI 4)), .ref aso, .ref asl, .ref ace, .int (nI M), .int (nI B), .ref ape, .ref aki, .ref abo, .int at_, .int rM, .int rB, .ref arp, .ref ark, .ref arb, .int fb, .int fto, .int (nI R), .ref awh, .ref awn, .ref awm, .ref awk, .ref amo, .ref amu])), (aki, aI G 4 K)]) rfl rfl rfl rfl hl.1 rfl (Nat.le_of_ble_eq_true rfl) dX5_call_26 ⟨Nat.zero_le _, Nat.zero_le _⟩ (fun H locs hP hD hS => ?_)
      refine W.eq (g2 := F0 m 29 ls []) rfl ?_
      refine lv_aload_n hx hb dX5_call_29 rfl (lv_at hl 0 rfl) ?_
      refine g_get (v := .ref aki) hx hb hts ixX5_call_X5 hown hK hP 0 rfl rfl 8 (by decide) lkX5_call_22 rfl dX5_call_30 ?_
      refine lv_iload_n hx hb dX5_call_33 rfl (lv_at hl 1 rfl) ?_
      refine n_ald hx hb hK hP 1 rfl (k := jb) (by omega) (by decide) dX5_call_34 ?_
      refine lv_iconst (v := nI 2) hx hb dX5_call_35 (by decide) ?_
      refine lv_icmp_ne (tgt := 44) hx hb dX5_call_36 (by decide) (fun c3 => ?_) (fun c3 => ?_)
      ·
        refine lv_iload_n hx hb dX5_call_44 rfl (lv_at hl 1 rfl) ?_
        exact hret _ _ _ _ _ (by first | with_reducible rfl | (simp only [s_call, t_call, iF_t c1, iF_f c2, iF_f (show ¬ K jb = 2 from c2), iF_f c3, iF_f (show ¬ K jb = 2 from c3), tn_nI (show jb < 2 ^ 31 by omega)]; done) | contradiction) (by first | with_reducible exact hP | (simp only [s_call, t_call, iF_t c1, iF_f c2, iF_f (show ¬ K jb = 2 from c2), iF_f c3, iF_f (show ¬ K jb = 2 from c3), tn_nI (show jb < 2 ^ 31 by omega)]; with_reducible exact hP) | contradiction | (simp only [s_call, t_call, iF_t c1, iF_f c2, iF_f (show ¬ K jb = 2 from c2), iF_f c3, iF_f (show ¬ K jb = 2 from c3), tn_nI (show jb < 2 ^ 31 by omega)]; exact hP) | exact hP) hS dX5_call_45
      ·
        exact absurd c3 c2
    ·
      refine lv_iconst (v := nI 5) hx hb dX5_call_21 (by decide) ?_
      refine lv_goto (tgt := 26) hx hb dX5_call_22 (by decide) ?_
      refine wtV (As := [.int (nI 5)]) (rest := []) (ci := 5) (q0 := 0) hE (kX5_begins l G o ff ftr aso asl ace M B ape aki abo at_ rM rB arp ark arb fb fto R awh awn awm awk amo amu (nI 5) ) (cwV 1 hts gX5_call_X5_begins rfl rfl rfl (by decide +kernel) ⟨Nat.le_of_ble_eq_true rfl, Nat.le_of_ble_eq_true rfl⟩) hP hK hD hS [0] (by decide) rfl (Eq.trans (b := [o]) rfl rfl) (W1 := [(o, .inr (5, [.int ff, .int (lt1 ftr (nI 5)), .ref aso, .ref asl, .ref ace, .int (nI M), .int (nI B), .ref ape, .ref aki, .ref abo, .int at_, .int rM, .int rB, .ref arp, .ref ark, .ref arb, .int fb, .int fto, .int (nI R), .ref awh, .ref awn, .ref awm, .ref awk, .ref amo, .ref amu])), (aki, aI G 4 K)]) rfl rfl rfl rfl hl.1 rfl (Nat.le_of_ble_eq_true rfl) dX5_call_26 ⟨Nat.zero_le _, Nat.zero_le _⟩ (fun H locs hP hD hS => ?_)
      refine W.eq (g2 := F0 m 29 ls []) rfl ?_
      refine lv_aload_n hx hb dX5_call_29 rfl (lv_at hl 0 rfl) ?_
      refine g_get (v := .ref aki) hx hb hts ixX5_call_X5 hown hK hP 0 rfl rfl 8 (by decide) lkX5_call_22 rfl dX5_call_30 ?_
      refine lv_iload_n hx hb dX5_call_33 rfl (lv_at hl 1 rfl) ?_
      refine n_ald hx hb hK hP 1 rfl (k := jb) (by omega) (by decide) dX5_call_34 ?_
      refine lv_iconst (v := nI 2) hx hb dX5_call_35 (by decide) ?_
      refine lv_icmp_ne (tgt := 44) hx hb dX5_call_36 (by decide) (fun c4 => ?_) (fun c4 => ?_)
      ·
        exact absurd c2 c4
      ·
        refine lv_bipush (v := nI 20) hx hb dX5_call_39 (by decide) ?_
        refine lv_goto (tgt := 45) hx hb dX5_call_41 (by decide) ?_
        exact hret _ _ _ _ _ (by first | with_reducible rfl | (simp only [s_call, t_call, iF_t c1, iF_t c2, iF_t (show K jb = 2 from c2), iF_t c4, iF_t (show K jb = 2 from c4), tn_nI (show jb < 2 ^ 31 by omega)]; done) | contradiction) (by first | with_reducible exact hP | (simp only [s_call, t_call, iF_t c1, iF_t c2, iF_t (show K jb = 2 from c2), iF_t c4, iF_t (show K jb = 2 from c4), tn_nI (show jb < 2 ^ 31 by omega)]; with_reducible exact hP) | contradiction | (simp only [s_call, t_call, iF_t c1, iF_t c2, iF_t (show K jb = 2 from c2), iF_t c4, iF_t (show K jb = 2 from c4), tn_nI (show jb < 2 ^ 31 by omega)]; exact hP) | exact hP) hS dX5_call_45
  ·
    refine lv_iconst (v := (-1)) hx hb dX5_call_8 (by decide) ?_
    exact hret _ _ _ _ _ (by first | with_reducible rfl | (simp only [s_call, t_call, iF_f c1]; done) | contradiction) (by first | with_reducible exact hP | (simp only [s_call, t_call, iF_f c1]; with_reducible exact hP) | contradiction | (simp only [s_call, t_call, iF_f c1]; exact hP) | exact hP) hS dX5_call_9

theorem ixX5_as_X5 : ∀ w ∈ wsX50, w ∈ wsX5_as := fun _ h => List.mem_cons_of_mem _ (List.mem_append_right _ h)
theorem lkX5_as_55 : Cond.fieldLink RX5 55 (TX5 0).1 (TX5 0).2.1 (TX5 0).2.2.1 ∈ wsX5_as := List.mem_of_getElem? (i := 1) rfl
theorem lkX5_as_22 : Cond.fieldLink RX5 22 (TX5 8).1 (TX5 8).2.1 (TX5 8).2.2.1 ∈ wsX5_as := List.mem_of_getElem? (i := 2) rfl
set_option maxHeartbeats 4000000 in
set_option maxRecDepth 100000 in
theorem kX5_as (l : Launch) (G : Gl) (o : Nat) (ff : Int32) (ftr : Int32) (aso : Nat) (asl : Nat) (ace : Nat) (M : Nat) (B : Nat) (ape : Nat) (aki : Nat) (abo : Nat) (at_ : Int32) (rM : Int32) (rB : Int32) (arp : Nat) (ark : Nat) (arb : Nat) (fb : Int32) (fto : Int32) (R : Nat) (awh : Nat) (awn : Nat) (awm : Nat) (awk : Nat) (amo : Nat) (amu : Nat) (K : Nat → Int32) (b : Int32) (k : Int32) (hB : B ≤ 4) : Wt l G yX5_as wsX5_as ({ frames := 1, cells := 0, slots := 0, locals := 22 } : Room) [.ref o, .int b, .int k] [(o, .inr (5, [.int ff, .int ftr, .ref aso, .ref asl, .ref ace, .int (nI M), .int (nI B), .ref ape, .ref aki, .ref abo, .int at_, .int rM, .int rB, .ref arp, .ref ark, .ref arb, .int fb, .int fto, .int (nI R), .ref awh, .ref awn, .ref awm, .ref awk, .ref amo, .ref amu])), (aki, aI G 4 K)] [(o, .inr (5, [.int (f_as B K b k), .int ftr, .ref aso, .ref asl, .ref ace, .int (nI M), .int (nI B), .ref ape, .ref aki, .ref abo, .int at_, .int rM, .int rB, .ref arp, .ref ark, .ref arb, .int fb, .int fto, .int (nI R), .ref awh, .ref awn, .ref awm, .ref awk, .ref amo, .ref amu])), (aki, aI G 4 K)] (some (.int (s_as B K b k))) := by
  refine Wt.ofI (cc := cX5_as) (maxL := 3) (by decide) rfl (Nat.le_of_ble_eq_true rfl) ?_
  intro p e s m below meth c Q A ls hE hP hK hD hS hl hret
  obtain ⟨hx, hb, hml, hown, hts⟩ := id hE
  have hl : lv_has ls 3 [(0, .ref o), (1, .int b), (2, .int k)] := hl
  refine lv_aload_n hx hb dX5_as_0 rfl (lv_at hl 0 rfl) ?_
  refine lv_iconst (v := nI 0) hx hb dX5_as_1 (by decide) ?_
  refine g_put (v := (nI 0)) hx hb hts ixX5_as_X5 tyX5 tyX5_ok nmX5 hown hK hP hD hS 0 rfl rfl 0 (by decide) lkX5_as_55 rfl rfl (Nat.le_of_ble_eq_true rfl) dX5_as_2 (fun H locs hP hD hS => ?_)
  have hP : va_P G.1 vwCl [(o, .inr (5, [.int (nI 0), .int ftr, .ref aso, .ref asl, .ref ace, .int (nI M), .int (nI B), .ref ape, .ref aki, .ref abo, .int at_, .int rM, .int rB, .ref arp, .ref ark, .ref arb, .int fb, .int fto, .int (nI R), .ref awh, .ref awn, .ref awm, .ref awk, .ref amo, .ref amu])), (aki, aI G 4 K)] H := hP
  have hD : va_D A [(o, .inr (5, [.int (nI 0), .int ftr, .ref aso, .ref asl, .ref ace, .int (nI M), .int (nI B), .ref ape, .ref aki, .ref abo, .int at_, .int rM, .int rB, .ref arp, .ref ark, .ref arb, .int fb, .int fto, .int (nI R), .ref awh, .ref awn, .ref awm, .ref awk, .ref amo, .ref amu])), (aki, aI G 4 K)] := hD
  refine lv_aload_n hx hb dX5_as_5 rfl (lv_at hl 0 rfl) ?_
  refine lv_iload_n hx hb dX5_as_6 rfl (lv_at hl 1 rfl) ?_
  refine rdV (As := [.int b]) (rest := []) (ci := 5) (q0 := 0) hE (kX5_isBoy l G o (nI 0) ftr aso asl ace M B ape aki abo at_ rM rB arp ark arb fb fto R awh awn awm awk amo amu b hB) (cwV 1 hts gX5_as_X5_isBoy rfl rfl rfl (by decide +kernel) ⟨Nat.le_of_ble_eq_true rfl, Nat.le_of_ble_eq_true rfl⟩) hP hK [0] rfl rfl rfl rfl hl.1 rfl (Nat.le_of_ble_eq_true rfl) dX5_as_7 ⟨Nat.zero_le _, Nat.zero_le _⟩ ?_
  refine W.eq (g2 := F0 m 10 ls [.int (bI (vp_in b B))]) rfl ?_
  refine bz_ne (tgt := 15) hx hb dX5_as_10 (by decide) (fun c1 => ?_) (fun c1 => ?_)
  ·
    obtain ⟨jb, hjb, rfl⟩ := vp_in_of c1 (by omega)
    refine lv_iload_n hx hb dX5_as_15 rfl (lv_at hl 2 rfl) ?_
    refine lv_iconst (v := nI 0) hx hb dX5_as_16 (by decide) ?_
    refine lv_iconst (v := nI 2) hx hb dX5_as_17 (by decide) ?_
    refine rdS (As := [.int k, .int (nI 0), .int (nI 2)]) (rest := []) hE (kX5_within0 l G k 2 (by first | omega | assumption)) (va_cwS 3 hts gX5_as_X5_within rfl rfl rfl (by decide +kernel) ⟨Nat.le_of_ble_eq_true rfl, Nat.le_of_ble_eq_true rfl⟩) hP hK [] rfl rfl hl.1 rfl (Nat.le_of_ble_eq_true rfl) dX5_as_18 ⟨Nat.zero_le _, Nat.zero_le _⟩ ?_
    refine W.eq (g2 := F0 m 21 ls [.int (bI (vp_in k (2 + 1)))]) rfl ?_
    refine bz_ne (tgt := 27) hx hb dX5_as_21 (by decide) (fun c2 => ?_) (fun c2 => ?_)
    ·
      refine lv_aload_n hx hb dX5_as_27 rfl (lv_at hl 0 rfl) ?_
      refine g_get (v := .ref aki) hx hb hts ixX5_as_X5 hown hK hP 0 rfl rfl 8 (by decide) lkX5_as_22 rfl dX5_as_28 ?_
      refine lv_iload_n hx hb dX5_as_31 rfl (lv_at hl 1 rfl) ?_
      refine n_ald hx hb hK hP 1 rfl (k := jb) (by omega) (by decide) dX5_as_32 ?_
      refine lv_iload_n hx hb dX5_as_33 rfl (lv_at hl 2 rfl) ?_
      refine lv_icmp_lt (tgt := 41) hx hb dX5_as_34 (by decide) (fun c3 => ?_) (fun c3 => ?_)
      ·
        refine lv_aload_n hx hb dX5_as_41 rfl (lv_at hl 0 rfl) ?_
        refine lv_iconst (v := nI 2) hx hb dX5_as_42 (by decide) ?_
        refine wtV (As := [.int (nI 2)]) (rest := []) (ci := 5) (q0 := 0) hE (kX5_fails l G o (nI 0) ftr aso asl ace M B ape aki abo at_ rM rB arp ark arb fb fto R awh awn awm awk amo amu (nI 2) ) (cwV 1 hts gX5_as_X5_fails rfl rfl rfl (by decide +kernel) ⟨Nat.le_of_ble_eq_true rfl, Nat.le_of_ble_eq_true rfl⟩) hP hK hD hS [0] (by decide) rfl (Eq.trans (b := [o]) rfl rfl) (W1 := [(o, .inr (5, [.int (nI 2), .int ftr, .ref aso, .ref asl, .ref ace, .int (nI M), .int (nI B), .ref ape, .ref aki, .ref abo, .int at_, .int rM, .int rB, .ref arp, .ref ark, .ref arb, .int fb, .int fto, .int (nI R), .ref awh, .ref awn, .ref awm, .ref awk, .ref amo, .ref amu])), (aki, aI G 4 K)]) rfl rfl rfl rfl hl.1 rfl (Nat.le_of_ble_eq_true rfl) dX5_as_43 ⟨Nat.zero_le _, Nat.zero_le _⟩ (fun H locs hP hD hS => ?_)
        refine W.eq (g2 := F0 m 46 ls [.int ((-10) - (nI 2))]) rfl ?_
        exact hret _ _ _ _ _ (by first | with_reducible rfl | (simp only [s_as, f_as, iF_t c1, iF_t c2, iF_t c3, iF_f (i32_lt c3), tn_nI (show jb < 2 ^ 31 by omega)]; done) | contradiction) (by first | with_reducible exact hP | (simp only [s_as, f_as, iF_t c1, iF_t c2, iF_t c3, iF_f (i32_lt c3), tn_nI (show jb < 2 ^ 31 by omega)]; with_reducible exact hP) | contradiction | (simp only [s_as, f_as, iF_t c1, iF_t c2, iF_t c3, iF_f (i32_lt c3), tn_nI (show jb < 2 ^ 31 by omega)]; exact hP) | exact hP) hS dX5_as_46
      ·
        refine lv_iconst (v := nI 1) hx hb dX5_as_37 (by decide) ?_
        refine lv_goto (tgt := 46) hx hb dX5_as_38 (by decide) ?_
        exact hret _ _ _ _ _ (by first | with_reducible rfl | (simp only [s_as, f_as, iF_t c1, iF_t c2, iF_f c3, iF_t (i32_nlt c3), tn_nI (show jb < 2 ^ 31 by omega)]; done) | contradiction) (by first | with_reducible exact hP | (simp only [s_as, f_as, iF_t c1, iF_t c2, iF_f c3, iF_t (i32_nlt c3), tn_nI (show jb < 2 ^ 31 by omega)]; with_reducible exact hP) | contradiction | (simp only [s_as, f_as, iF_t c1, iF_t c2, iF_f c3, iF_t (i32_nlt c3), tn_nI (show jb < 2 ^ 31 by omega)]; exact hP) | exact hP) hS dX5_as_46
    ·
      refine lv_bipush (v := (-2)) hx hb dX5_as_24 (by decide) ?_
      exact hret _ _ _ _ _ (by first | with_reducible rfl | (simp only [s_as, f_as, iF_t c1, iF_f c2, tn_nI (show jb < 2 ^ 31 by omega)]; done) | contradiction) (by first | with_reducible exact hP | (simp only [s_as, f_as, iF_t c1, iF_f c2, tn_nI (show jb < 2 ^ 31 by omega)]; with_reducible exact hP) | contradiction | (simp only [s_as, f_as, iF_t c1, iF_f c2, tn_nI (show jb < 2 ^ 31 by omega)]; exact hP) | exact hP) hS dX5_as_26
  ·
    refine lv_iconst (v := (-1)) hx hb dX5_as_13 (by decide) ?_
    exact hret _ _ _ _ _ (by first | with_reducible rfl | (simp only [s_as, f_as, iF_f c1]; done) | contradiction) (by first | with_reducible exact hP | (simp only [s_as, f_as, iF_f c1]; with_reducible exact hP) | contradiction | (simp only [s_as, f_as, iF_f c1]; exact hP) | exact hP) hS dX5_as_14
