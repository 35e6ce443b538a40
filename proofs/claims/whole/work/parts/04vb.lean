theorem ixX5_learns_X5 : ∀ w ∈ wsX50, w ∈ wsX5_learns := fun _ h => List.mem_cons_of_mem _ (List.mem_append_right _ h)
theorem lkX5_learns_22 : Cond.fieldLink RX5 22 (TX5 8).1 (TX5 8).2.1 (TX5 8).2.2.1 ∈ wsX5_learns := List.mem_of_getElem? (i := 1) rfl
set_option maxHeartbeats 4000000 in
set_option maxRecDepth 100000 in
theorem kX5_learns (l : Launch) (G : Gl) (o : Nat) (ff : Int32) (ftr : Int32) (aso : Nat) (asl : Nat) (ace : Nat) (M : Nat) (B : Nat) (ape : Nat) (aki : Nat) (abo : Nat) (at_ : Int32) (rM : Int32) (rB : Int32) (arp : Nat) (ark : Nat) (arb : Nat) (fb : Int32) (fto : Int32) (R : Nat) (awh : Nat) (awn : Nat) (awm : Nat) (awk : Nat) (amo : Nat) (amu : Nat) (K : Nat → Int32) (b : Nat) (hb4 : b < 4) (hk : kd (K b)) : Rd l G yX5_learns wsX5_learns ({ frames := 0, cells := 0, slots := 0, locals := 0 } : Room) [.ref o, .int (nI b)] [(o, .inr (5, [.int ff, .int ftr, .ref aso, .ref asl, .ref ace, .int (nI M), .int (nI B), .ref ape, .ref aki, .ref abo, .int at_, .int rM, .int rB, .ref arp, .ref ark, .ref arb, .int fb, .int fto, .int (nI R), .ref awh, .ref awn, .ref awm, .ref awk, .ref amo, .ref amu])), (aki, aI G 4 K)] (some (.int (lrn (K b)))) := by
  refine Rd.ofI (cc := cX5_learns) (maxL := 2) (by decide) rfl (Nat.le_of_ble_eq_true rfl) ?_
  intro p e s m below meth c Q ls hE hP hK hl hret
  obtain ⟨hx, hb, hml, hown, hts⟩ := id hE
  have hl : lv_has ls 2 [(0, .ref o), (1, .int (nI b))] := hl
  refine lv_aload_n hx hb dX5_learns_0 rfl (lv_at hl 0 rfl) ?_
  refine g_get (v := .ref aki) hx hb hts ixX5_learns_X5 hown hK hP 0 rfl rfl 8 (by decide) lkX5_learns_22 rfl dX5_learns_1 ?_
  refine lv_iload_n hx hb dX5_learns_4 rfl (lv_at hl 1 rfl) ?_
  refine n_ald hx hb hK hP 1 rfl (k := b) (by omega) (by decide) dX5_learns_5 ?_
  refine lv_if_ne (tgt := 14) hx hb dX5_learns_6 (by decide) (fun c1 => ?_) (fun c1 => ?_)
  ·
    refine lv_aload_n hx hb dX5_learns_14 rfl (lv_at hl 0 rfl) ?_
    refine g_get (v := .ref aki) hx hb hts ixX5_learns_X5 hown hK hP 0 rfl rfl 8 (by decide) lkX5_learns_22 rfl dX5_learns_15 ?_
    refine lv_iload_n hx hb dX5_learns_18 rfl (lv_at hl 1 rfl) ?_
    refine n_ald hx hb hK hP 1 rfl (k := b) (by omega) (by decide) dX5_learns_19 ?_
    refine lv_iconst (v := nI 1) hx hb dX5_learns_20 (by decide) ?_
    refine lv_icmp_ne (tgt := 29) hx hb dX5_learns_21 (by decide) (fun c2 => ?_) (fun c2 => ?_)
    ·
      refine lv_iconst (v := nI 4) hx hb dX5_learns_29 (by decide) ?_
      exact hret _ _ _ (lrn_2 hk c1 c2) dX5_learns_30
    ·
      refine lv_bipush (v := nI 12) hx hb dX5_learns_24 (by decide) ?_
      refine lv_goto (tgt := 30) hx hb dX5_learns_26 (by decide) ?_
      exact hret _ _ _ (lrn_1 c2) dX5_learns_30
  ·
    refine lv_bipush (v := nI 9) hx hb dX5_learns_9 (by decide) ?_
    refine lv_goto (tgt := 30) hx hb dX5_learns_11 (by decide) ?_
    exact hret _ _ _ (lrn_0 c1) dX5_learns_30

theorem ixX5_ofBoy_X5 : ∀ w ∈ wsX50, w ∈ wsX5_ofBoy := fun _ h => List.mem_cons_of_mem _ (List.mem_append_right _ h)
theorem lkX5_ofBoy_25 : Cond.fieldLink RX5 25 (TX5 9).1 (TX5 9).2.1 (TX5 9).2.2.1 ∈ wsX5_ofBoy := List.mem_of_getElem? (i := 2) rfl
theorem lkX5_ofBoy_22 : Cond.fieldLink RX5 22 (TX5 8).1 (TX5 8).2.1 (TX5 8).2.2.1 ∈ wsX5_ofBoy := List.mem_of_getElem? (i := 1) rfl
set_option maxHeartbeats 4000000 in
set_option maxRecDepth 100000 in
theorem kX5_ofBoy (l : Launch) (G : Gl) (o : Nat) (ff : Int32) (ftr : Int32) (aso : Nat) (asl : Nat) (ace : Nat) (M : Nat) (B : Nat) (ape : Nat) (aki : Nat) (abo : Nat) (at_ : Int32) (rM : Int32) (rB : Int32) (arp : Nat) (ark : Nat) (arb : Nat) (fb : Int32) (fto : Int32) (R : Nat) (awh : Nat) (awn : Nat) (awm : Nat) (awk : Nat) (amo : Nat) (amu : Nat) (K : Nat → Int32) (U : Nat → Int32) (b : Int32) (w : Int32) (hB : B ≤ 4) (hK3 : ∀ b, b < B → kd (K b)) : Rd l G yX5_ofBoy wsX5_ofBoy ({ frames := 1, cells := 0, slots := 0, locals := 21 } : Room) [.ref o, .int b, .int w] [(o, .inr (5, [.int ff, .int ftr, .ref aso, .ref asl, .ref ace, .int (nI M), .int (nI B), .ref ape, .ref aki, .ref abo, .int at_, .int rM, .int rB, .ref arp, .ref ark, .ref arb, .int fb, .int fto, .int (nI R), .ref awh, .ref awn, .ref awm, .ref awk, .ref amo, .ref amu])), (aki, aI G 4 K), (abo, aI G 4 U)] (some (.int (s_ofBoy B K U b w))) := by
  refine Rd.ofI (cc := cX5_ofBoy) (maxL := 3) (by decide) rfl (Nat.le_of_ble_eq_true rfl) ?_
  intro p e s m below meth c Q ls hE hP hK hl hret
  obtain ⟨hx, hb, hml, hown, hts⟩ := id hE
  have hl : lv_has ls 3 [(0, .ref o), (1, .int b), (2, .int w)] := hl
  refine lv_aload_n hx hb dX5_ofBoy_0 rfl (lv_at hl 0 rfl) ?_
  refine lv_iload_n hx hb dX5_ofBoy_1 rfl (lv_at hl 1 rfl) ?_
  refine rdV (As := [.int b]) (rest := []) (ci := 5) (q0 := 0) hE (kX5_isBoy l G o ff ftr aso asl ace M B ape aki abo at_ rM rB arp ark arb fb fto R awh awn awm awk amo amu b hB) (cwV 1 hts gX5_ofBoy_X5_isBoy rfl rfl rfl (by decide +kernel) ⟨Nat.le_of_ble_eq_true rfl, Nat.le_of_ble_eq_true rfl⟩) hP hK [0] rfl rfl rfl rfl hl.1 rfl (Nat.le_of_ble_eq_true rfl) dX5_ofBoy_2 ⟨Nat.zero_le _, Nat.zero_le _⟩ ?_
  refine W.eq (g2 := F0 m 5 ls [.int (bI (vp_in b B))]) rfl ?_
  refine bz_ne (tgt := 10) hx hb dX5_ofBoy_5 (by decide) (fun c1 => ?_) (fun c1 => ?_)
  ·
    obtain ⟨jb, hjb, rfl⟩ := vp_in_of c1 (by omega)
    refine lv_iload_n hx hb dX5_ofBoy_10 rfl (lv_at hl 2 rfl) ?_
    refine lv_if_ne (tgt := 23) hx hb dX5_ofBoy_11 (by decide) (fun c2 => ?_) (fun c2 => ?_)
    ·
      refine lv_iload_n hx hb dX5_ofBoy_23 rfl (lv_at hl 2 rfl) ?_
      refine lv_iconst (v := nI 1) hx hb dX5_ofBoy_24 (by decide) ?_
      refine lv_icmp_ne (tgt := 37) hx hb dX5_ofBoy_25 (by decide) (fun c3 => ?_) (fun c3 => ?_)
      ·
        refine lv_iload_n hx hb dX5_ofBoy_37 rfl (lv_at hl 2 rfl) ?_
        refine lv_iconst (v := nI 2) hx hb dX5_ofBoy_38 (by decide) ?_
        refine lv_icmp_ne (tgt := 50) hx hb dX5_ofBoy_39 (by decide) (fun c4 => ?_) (fun c4 => ?_)
        ·
          refine lv_bipush (v := (-2)) hx hb dX5_ofBoy_50 (by decide) ?_
          exact hret _ _ _ (by first | with_reducible rfl | (simp only [s_ofBoy, iF_t c1, iF_f c2, iF_f c3, iF_f (show ¬ w = 1 from c3), iF_f c4, iF_f (show ¬ w = 2 from c4), tn_nI (show jb < 2 ^ 31 by omega)]; done) | contradiction) dX5_ofBoy_52
        ·
          refine lv_aload_n hx hb dX5_ofBoy_42 rfl (lv_at hl 0 rfl) ?_
          refine lv_iload_n hx hb dX5_ofBoy_43 rfl (lv_at hl 1 rfl) ?_
          refine rdV (As := [.int (nI jb)]) (rest := []) (ci := 5) (q0 := 0) hE (kX5_learns l G o ff ftr aso asl ace M B ape aki abo at_ rM rB arp ark arb fb fto R awh awn awm awk amo amu K jb (by first | omega | assumption | exact hU _ (by omega) | exact hz _ (by omega) | exact hK3 _ (by omega)) (by first | omega | assumption | exact hU _ (by omega) | exact hz _ (by omega) | exact hK3 _ (by omega))) (cwV 1 hts gX5_ofBoy_X5_learns rfl rfl rfl (by decide +kernel) ⟨Nat.le_of_ble_eq_true rfl, Nat.le_of_ble_eq_true rfl⟩) hP hK [0, 1] rfl rfl rfl rfl hl.1 rfl (Nat.le_of_ble_eq_true rfl) dX5_ofBoy_44 ⟨Nat.zero_le _, Nat.zero_le _⟩ ?_
          refine W.eq (g2 := F0 m 47 ls [.int (lrn (K jb))]) rfl ?_
          refine lv_goto (tgt := 52) hx hb dX5_ofBoy_47 (by decide) ?_
          exact hret _ _ _ (by first | with_reducible rfl | (simp only [s_ofBoy, iF_t c1, iF_f c2, iF_f c3, iF_f (show ¬ w = 1 from c3), iF_t c4, iF_t (show w = 2 from c4), tn_nI (show jb < 2 ^ 31 by omega)]; done) | contradiction) dX5_ofBoy_52
      ·
        refine lv_aload_n hx hb dX5_ofBoy_28 rfl (lv_at hl 0 rfl) ?_
        refine g_get (v := .ref abo) hx hb hts ixX5_ofBoy_X5 hown hK hP 0 rfl rfl 9 (by decide) lkX5_ofBoy_25 rfl dX5_ofBoy_29 ?_
        refine lv_iload_n hx hb dX5_ofBoy_32 rfl (lv_at hl 1 rfl) ?_
        refine n_ald hx hb hK hP 2 rfl (k := jb) (by omega) (by decide) dX5_ofBoy_33 ?_
        refine lv_goto (tgt := 52) hx hb dX5_ofBoy_34 (by decide) ?_
        exact hret _ _ _ (by first | with_reducible rfl | (simp only [s_ofBoy, iF_t c1, iF_f c2, iF_t c3, iF_t (show w = 1 from c3), tn_nI (show jb < 2 ^ 31 by omega)]; done) | contradiction) dX5_ofBoy_52
    ·
      refine lv_aload_n hx hb dX5_ofBoy_14 rfl (lv_at hl 0 rfl) ?_
      refine g_get (v := .ref aki) hx hb hts ixX5_ofBoy_X5 hown hK hP 0 rfl rfl 8 (by decide) lkX5_ofBoy_22 rfl dX5_ofBoy_15 ?_
      refine lv_iload_n hx hb dX5_ofBoy_18 rfl (lv_at hl 1 rfl) ?_
      refine n_ald hx hb hK hP 1 rfl (k := jb) (by omega) (by decide) dX5_ofBoy_19 ?_
      refine lv_goto (tgt := 52) hx hb dX5_ofBoy_20 (by decide) ?_
      exact hret _ _ _ (by first | with_reducible rfl | (simp only [s_ofBoy, iF_t c1, iF_t c2, tn_nI (show jb < 2 ^ 31 by omega)]; done) | contradiction) dX5_ofBoy_52
  ·
    refine lv_iconst (v := (-1)) hx hb dX5_ofBoy_8 (by decide) ?_
    exact hret _ _ _ (by first | with_reducible rfl | (simp only [s_ofBoy, iF_f c1]; done) | contradiction) dX5_ofBoy_9

theorem ixX5_owes_X5 : ∀ w ∈ wsX50, w ∈ wsX5_owes := fun _ h => List.mem_cons_of_mem _ (List.mem_append_right _ h)
theorem lkX5_owes_19 : Cond.fieldLink RX5 19 (TX5 7).1 (TX5 7).2.1 (TX5 7).2.2.1 ∈ wsX5_owes := List.mem_of_getElem? (i := 1) rfl
set_option maxHeartbeats 4000000 in
set_option maxRecDepth 100000 in
theorem kX5_owes (l : Launch) (G : Gl) (o : Nat) (ff : Int32) (ftr : Int32) (aso : Nat) (asl : Nat) (ace : Nat) (M : Nat) (B : Nat) (ape : Nat) (aki : Nat) (abo : Nat) (at_ : Int32) (rM : Int32) (rB : Int32) (arp : Nat) (ark : Nat) (arb : Nat) (fb : Int32) (fto : Int32) (R : Nat) (awh : Nat) (awn : Nat) (awm : Nat) (awk : Nat) (amo : Nat) (amu : Nat) (P : Nat → Int32) (a : Int32) (b : Int32) (hM : M ≤ 5) : Rd l G yX5_owes wsX5_owes ({ frames := 1, cells := 0, slots := 0, locals := 21 } : Room) [.ref o, .int a, .int b] [(o, .inr (5, [.int ff, .int ftr, .ref aso, .ref asl, .ref ace, .int (nI M), .int (nI B), .ref ape, .ref aki, .ref abo, .int at_, .int rM, .int rB, .ref arp, .ref ark, .ref arb, .int fb, .int fto, .int (nI R), .ref awh, .ref awn, .ref awm, .ref awk, .ref amo, .ref amu])), (ape, aI G 25 P)] (some (.int (s_owes M P a b))) := by
  refine Rd.ofI (cc := cX5_owes) (maxL := 3) (by decide) rfl (Nat.le_of_ble_eq_true rfl) ?_
  intro p e s m below meth c Q ls hE hP hK hl hret
  obtain ⟨hx, hb, hml, hown, hts⟩ := id hE
  have hl : lv_has ls 3 [(0, .ref o), (1, .int a), (2, .int b)] := hl
  refine lv_aload_n hx hb dX5_owes_0 rfl (lv_at hl 0 rfl) ?_
  refine lv_iload_n hx hb dX5_owes_1 rfl (lv_at hl 1 rfl) ?_
  refine rdV (As := [.int a]) (rest := []) (ci := 5) (q0 := 0) hE (kX5_isMaster l G o ff ftr aso asl ace M B ape aki abo at_ rM rB arp ark arb fb fto R awh awn awm awk amo amu a hM) (cwV 1 hts gX5_owes_X5_isMaster rfl rfl rfl (by decide +kernel) ⟨Nat.le_of_ble_eq_true rfl, Nat.le_of_ble_eq_true rfl⟩) hP hK [0] rfl rfl rfl rfl hl.1 rfl (Nat.le_of_ble_eq_true rfl) dX5_owes_2 ⟨Nat.zero_le _, Nat.zero_le _⟩ ?_
  refine W.eq (g2 := F0 m 5 ls [.int (bI (vp_in a M))]) rfl ?_
  refine bz_eq (tgt := 29) hx hb dX5_owes_5 (by decide) (fun c1 => ?_) (fun c1 => ?_)
  ·
    refine lv_iconst (v := (-1)) hx hb dX5_owes_29 (by decide) ?_
    exact hret _ _ _ (by first | with_reducible rfl | (simp only [s_owes, iF_f c1]; done) | contradiction) dX5_owes_30
  ·
    obtain ⟨ja, hja, rfl⟩ := vp_in_of c1 (by omega)
    refine lv_aload_n hx hb dX5_owes_8 rfl (lv_at hl 0 rfl) ?_
    refine lv_iload_n hx hb dX5_owes_9 rfl (lv_at hl 2 rfl) ?_
    refine rdV (As := [.int b]) (rest := []) (ci := 5) (q0 := 0) hE (kX5_isMaster l G o ff ftr aso asl ace M B ape aki abo at_ rM rB arp ark arb fb fto R awh awn awm awk amo amu b hM) (cwV 1 hts gX5_owes_X5_isMaster rfl rfl rfl (by decide +kernel) ⟨Nat.le_of_ble_eq_true rfl, Nat.le_of_ble_eq_true rfl⟩) hP hK [0] rfl rfl rfl rfl hl.1 rfl (Nat.le_of_ble_eq_true rfl) dX5_owes_10 ⟨Nat.zero_le _, Nat.zero_le _⟩ ?_
    refine W.eq (g2 := F0 m 13 ls [.int (bI (vp_in b M))]) rfl ?_
    refine bz_eq (tgt := 29) hx hb dX5_owes_13 (by decide) (fun c2 => ?_) (fun c2 => ?_)
    ·
      refine lv_iconst (v := (-1)) hx hb dX5_owes_29 (by decide) ?_
      exact hret _ _ _ (by first | with_reducible rfl | (simp only [s_owes, iF_t c1, iF_f c2, tn_nI (show ja < 2 ^ 31 by omega)]; done) | contradiction) dX5_owes_30
    ·
      obtain ⟨jb, hjb, rfl⟩ := vp_in_of c2 (by omega)
      refine lv_aload_n hx hb dX5_owes_16 rfl (lv_at hl 0 rfl) ?_
      refine g_get (v := .ref ape) hx hb hts ixX5_owes_X5 hown hK hP 0 rfl rfl 7 (by decide) lkX5_owes_19 rfl dX5_owes_17 ?_
      refine lv_iload_n hx hb dX5_owes_20 rfl (lv_at hl 1 rfl) ?_
      refine lv_iload_n hx hb dX5_owes_21 rfl (lv_at hl 2 rfl) ?_
      refine rdS (As := [.int (nI ja), .int (nI jb)]) (rest := [.ref ape]) hE (kX5_spot l G ja jb ) (va_cwS 2 hts gX5_owes_X5_spot rfl rfl rfl (by decide +kernel) ⟨Nat.le_of_ble_eq_true rfl, Nat.le_of_ble_eq_true rfl⟩) hP hK [] rfl rfl hl.1 rfl (Nat.le_of_ble_eq_true rfl) dX5_owes_22 ⟨Nat.zero_le _, Nat.zero_le _⟩ ?_
      refine W.eq (g2 := F0 m 25 ls [.int (nI (ja * 5 + jb)), .ref ape]) rfl ?_
      refine n_ald hx hb hK hP 1 rfl (k := ja * 5 + jb) (by omega) (by decide) dX5_owes_25 ?_
      refine lv_goto (tgt := 30) hx hb dX5_owes_26 (by decide) ?_
      exact hret _ _ _ (by first | with_reducible rfl | (simp only [s_owes, iF_t c1, iF_t c2, tn_nI (show ja < 2 ^ 31 by omega), tn_nI (show jb < 2 ^ 31 by omega)]; done) | contradiction) dX5_owes_30

theorem ixX5_owe_X5 : ∀ w ∈ wsX50, w ∈ wsX5_owe := fun _ h => List.mem_cons_of_mem _ (List.mem_append_right _ h)
theorem lkX5_owe_19 : Cond.fieldLink RX5 19 (TX5 7).1 (TX5 7).2.1 (TX5 7).2.2.1 ∈ wsX5_owe := List.mem_of_getElem? (i := 1) rfl
set_option maxHeartbeats 4000000 in
set_option maxRecDepth 100000 in
theorem kX5_owe (l : Launch) (G : Gl) (o : Nat) (ff : Int32) (ftr : Int32) (aso : Nat) (asl : Nat) (ace : Nat) (M : Nat) (B : Nat) (ape : Nat) (aki : Nat) (abo : Nat) (at_ : Int32) (rM : Int32) (rB : Int32) (arp : Nat) (ark : Nat) (arb : Nat) (fb : Int32) (fto : Int32) (R : Nat) (awh : Nat) (awn : Nat) (awm : Nat) (awk : Nat) (amo : Nat) (amu : Nat) (P : Nat → Int32) (a : Int32) (b : Int32) (v : Int32) (hM : M ≤ 5) : Wt l G yX5_owe wsX5_owe ({ frames := 1, cells := 0, slots := 0, locals := 22 } : Room) [.ref o, .int a, .int b, .int v] [(o, .inr (5, [.int ff, .int ftr, .ref aso, .ref asl, .ref ace, .int (nI M), .int (nI B), .ref ape, .ref aki, .ref abo, .int at_, .int rM, .int rB, .ref arp, .ref ark, .ref arb, .int fb, .int fto, .int (nI R), .ref awh, .ref awn, .ref awm, .ref awk, .ref amo, .ref amu])), (ape, aI G 25 P)] [(o, .inr (5, [.int ff, .int ftr, .ref aso, .ref asl, .ref ace, .int (nI M), .int (nI B), .ref ape, .ref aki, .ref abo, .int at_, .int rM, .int rB, .ref arp, .ref ark, .ref arb, .int fb, .int fto, .int (nI R), .ref awh, .ref awn, .ref awm, .ref awk, .ref amo, .ref amu])), (ape, aI G 25 (w_owe M P a b v))] (some (.int (s_owe M P a b v))) := by
  refine Wt.ofI (cc := cX5_owe) (maxL := 5) (by decide) rfl (Nat.le_of_ble_eq_true rfl) ?_
  intro p e s m below meth c Q A ls hE hP hK hD hS hl hret
  obtain ⟨hx, hb, hml, hown, hts⟩ := id hE
  have hl : lv_has ls 5 [(0, .ref o), (1, .int a), (2, .int b), (3, .int v)] := hl
  refine lv_aload_n hx hb dX5_owe_0 rfl (lv_at hl 0 rfl) ?_
  refine lv_iload_n hx hb dX5_owe_1 rfl (lv_at hl 1 rfl) ?_
  refine rdV (As := [.int a]) (rest := []) (ci := 5) (q0 := 0) hE (kX5_isMaster l G o ff ftr aso asl ace M B ape aki abo at_ rM rB arp ark arb fb fto R awh awn awm awk amo amu a hM) (cwV 1 hts gX5_owe_X5_isMaster rfl rfl rfl (by decide +kernel) ⟨Nat.le_of_ble_eq_true rfl, Nat.le_of_ble_eq_true rfl⟩) hP hK [0] rfl rfl rfl rfl hl.1 rfl (Nat.le_of_ble_eq_true rfl) dX5_owe_2 ⟨Nat.zero_le _, Nat.zero_le _⟩ ?_
  refine W.eq (g2 := F0 m 5 ls [.int (bI (vp_in a M))]) rfl ?_
  refine bz_eq (tgt := 21) hx hb dX5_owe_5 (by decide) (fun c1 => ?_) (fun c1 => ?_)
  ·
    refine lv_iconst (v := (-1)) hx hb dX5_owe_21 (by decide) ?_
    exact hret _ _ _ _ _ (by first | with_reducible rfl | (simp only [s_owe, w_owe, iF_f (show ¬ hd M a b from fun h => by obtain ⟨h0, h1, h2⟩ := h; first | contradiction | (exact h2 (by rw [c1])))]; done) | contradiction) (by first | with_reducible exact hP | (simp only [s_owe, w_owe, iF_f (show ¬ hd M a b from fun h => by obtain ⟨h0, h1, h2⟩ := h; first | contradiction | (exact h2 (by rw [c1])))]; with_reducible exact hP) | contradiction | (simp only [s_owe, w_owe, iF_f (show ¬ hd M a b from fun h => by obtain ⟨h0, h1, h2⟩ := h; first | contradiction | (exact h2 (by rw [c1])))]; exact hP) | exact hP) hS dX5_owe_22
  ·
    obtain ⟨ja, hja, rfl⟩ := vp_in_of c1 (by omega)
    refine lv_aload_n hx hb dX5_owe_8 rfl (lv_at hl 0 rfl) ?_
    refine lv_iload_n hx hb dX5_owe_9 rfl (lv_at hl 2 rfl) ?_
    refine rdV (As := [.int b]) (rest := []) (ci := 5) (q0 := 0) hE (kX5_isMaster l G o ff ftr aso asl ace M B ape aki abo at_ rM rB arp ark arb fb fto R awh awn awm awk amo amu b hM) (cwV 1 hts gX5_owe_X5_isMaster rfl rfl rfl (by decide +kernel) ⟨Nat.le_of_ble_eq_true rfl, Nat.le_of_ble_eq_true rfl⟩) hP hK [0] rfl rfl rfl rfl hl.1 rfl (Nat.le_of_ble_eq_true rfl) dX5_owe_10 ⟨Nat.zero_le _, Nat.zero_le _⟩ ?_
    refine W.eq (g2 := F0 m 13 ls [.int (bI (vp_in b M))]) rfl ?_
    refine bz_eq (tgt := 21) hx hb dX5_owe_13 (by decide) (fun c2 => ?_) (fun c2 => ?_)
    ·
      refine lv_iconst (v := (-1)) hx hb dX5_owe_21 (by decide) ?_
      exact hret _ _ _ _ _ (by first | with_reducible rfl | (simp only [s_owe, w_owe, iF_f (show ¬ hd M (nI ja) b from fun h => by obtain ⟨h0, h1, h2⟩ := h; first | contradiction | (exact h2 (by rw [c2]))), tn_nI (show ja < 2 ^ 31 by omega)]; done) | contradiction) (by first | with_reducible exact hP | (simp only [s_owe, w_owe, iF_f (show ¬ hd M (nI ja) b from fun h => by obtain ⟨h0, h1, h2⟩ := h; first | contradiction | (exact h2 (by rw [c2]))), tn_nI (show ja < 2 ^ 31 by omega)]; with_reducible exact hP) | contradiction | (simp only [s_owe, w_owe, iF_f (show ¬ hd M (nI ja) b from fun h => by obtain ⟨h0, h1, h2⟩ := h; first | contradiction | (exact h2 (by rw [c2]))), tn_nI (show ja < 2 ^ 31 by omega)]; exact hP) | exact hP) hS dX5_owe_22
    ·
      obtain ⟨jb, hjb, rfl⟩ := vp_in_of c2 (by omega)
      refine lv_iload_n hx hb dX5_owe_16 rfl (lv_at hl 1 rfl) ?_
      refine lv_iload_n hx hb dX5_owe_17 rfl (lv_at hl 2 rfl) ?_
      refine ic_ne (tgt := 23) hx hb (by omega) (by omega) dX5_owe_18 (by decide) (fun c3 => ?_) (fun c3 => ?_)
      ·
        refine lv_iload_n hx hb dX5_owe_23 rfl (lv_at hl 3 rfl) ?_
        refine lv_iconst (v := nI 0) hx hb dX5_owe_24 (by decide) ?_
        refine lv_bipush (v := nI 9) hx hb dX5_owe_25 (by decide) ?_
        refine rdS (As := [.int v, .int (nI 0), .int (nI 9)]) (rest := []) hE (kX5_within0 l G v 9 (by first | omega | assumption | exact hU _ (by omega) | exact hz _ (by omega) | exact hK3 _ (by omega))) (va_cwS 3 hts gX5_owe_X5_within rfl rfl rfl (by decide +kernel) ⟨Nat.le_of_ble_eq_true rfl, Nat.le_of_ble_eq_true rfl⟩) hP hK [] rfl rfl hl.1 rfl (Nat.le_of_ble_eq_true rfl) dX5_owe_27 ⟨Nat.zero_le _, Nat.zero_le _⟩ ?_
        refine W.eq (g2 := F0 m 30 ls [.int (bI (vp_in v (9 + 1)))]) rfl ?_
        refine bz_ne (tgt := 36) hx hb dX5_owe_30 (by decide) (fun c4 => ?_) (fun c4 => ?_)
        ·
          refine lv_aload_n hx hb dX5_owe_36 rfl (lv_at hl 0 rfl) ?_
          refine g_get (v := .ref ape) hx hb hts ixX5_owe_X5 hown hK hP 0 rfl rfl 7 (by decide) lkX5_owe_19 rfl dX5_owe_37 ?_
          refine lv_iload_n hx hb dX5_owe_40 rfl (lv_at hl 1 rfl) ?_
          refine lv_iload_n hx hb dX5_owe_41 rfl (lv_at hl 2 rfl) ?_
          refine rdS (As := [.int (nI ja), .int (nI jb)]) (rest := [.ref ape]) hE (kX5_spot l G ja jb ) (va_cwS 2 hts gX5_owe_X5_spot rfl rfl rfl (by decide +kernel) ⟨Nat.le_of_ble_eq_true rfl, Nat.le_of_ble_eq_true rfl⟩) hP hK [] rfl rfl hl.1 rfl (Nat.le_of_ble_eq_true rfl) dX5_owe_42 ⟨Nat.zero_le _, Nat.zero_le _⟩ ?_
          refine W.eq (g2 := F0 m 45 ls [.int (nI (ja * 5 + jb)), .ref ape]) rfl ?_
          refine n_ald hx hb hK hP 1 rfl (k := ja * 5 + jb) (by omega) (by decide) dX5_owe_45 ?_
          refine lv_istore (lv' := [(4, .int (P (ja * 5 + jb))), (0, .ref o), (1, .int (nI ja)), (2, .int (nI jb)), (3, .int v)]) hx hb dX5_owe_46 hl (by decide) rfl (fun ls hl => ?_)
          refine lv_aload_n hx hb dX5_owe_48 rfl (lv_at hl 1 rfl) ?_
          refine g_get (v := .ref ape) hx hb hts ixX5_owe_X5 hown hK hP 0 rfl rfl 7 (by decide) lkX5_owe_19 rfl dX5_owe_49 ?_
          refine lv_iload_n hx hb dX5_owe_52 rfl (lv_at hl 2 rfl) ?_
          refine lv_iload_n hx hb dX5_owe_53 rfl (lv_at hl 3 rfl) ?_
          refine rdS (As := [.int (nI ja), .int (nI jb)]) (rest := [.ref ape]) hE (kX5_spot l G ja jb ) (va_cwS 2 hts gX5_owe_X5_spot rfl rfl rfl (by decide +kernel) ⟨Nat.le_of_ble_eq_true rfl, Nat.le_of_ble_eq_true rfl⟩) hP hK [] rfl rfl hl.1 rfl (Nat.le_of_ble_eq_true rfl) dX5_owe_54 ⟨Nat.zero_le _, Nat.zero_le _⟩ ?_
          refine W.eq (g2 := F0 m 57 ls [.int (nI (ja * 5 + jb)), .ref ape]) rfl ?_
          refine lv_iload_n hx hb dX5_owe_57 rfl (lv_at hl 4 rfl) ?_
          refine n_ast hx hb hK hP hD hS 1 rfl (k := ja * 5 + jb) (by omega) (by decide) dX5_owe_58 (fun H locs hP hD hS => ?_)
          have hP : va_P G.1 vwCl [(o, .inr (5, [.int ff, .int ftr, .ref aso, .ref asl, .ref ace, .int (nI M), .int (nI B), .ref ape, .ref aki, .ref abo, .int at_, .int rM, .int rB, .ref arp, .ref ark, .ref arb, .int fb, .int fto, .int (nI R), .ref awh, .ref awn, .ref awm, .ref awk, .ref amo, .ref amu])), (ape, aI G 25 (upd P (ja * 5 + jb) v))] H := hP
          have hD : va_D A [(o, .inr (5, [.int ff, .int ftr, .ref aso, .ref asl, .ref ace, .int (nI M), .int (nI B), .ref ape, .ref aki, .ref abo, .int at_, .int rM, .int rB, .ref arp, .ref ark, .ref arb, .int fb, .int fto, .int (nI R), .ref awh, .ref awn, .ref awm, .ref awk, .ref amo, .ref amu])), (ape, aI G 25 (upd P (ja * 5 + jb) v))] := hD
          refine lv_iload hx hb dX5_owe_59 (lv_at hl 0 rfl) ?_
          exact hret _ _ _ _ _ (by first | with_reducible rfl | (simp only [s_owe, w_owe, iF_t (show hd M (nI ja) (nI jb) from ⟨c1, c2, fun q => c3 ((nI_eq (by omega) (by omega)).mp q)⟩), iF_t c4, tn_nI (show ja < 2 ^ 31 by omega), tn_nI (show jb < 2 ^ 31 by omega)]; done) | contradiction) (by first | with_reducible exact hP | (simp only [s_owe, w_owe, iF_t (show hd M (nI ja) (nI jb) from ⟨c1, c2, fun q => c3 ((nI_eq (by omega) (by omega)).mp q)⟩), iF_t c4, tn_nI (show ja < 2 ^ 31 by omega), tn_nI (show jb < 2 ^ 31 by omega)]; with_reducible exact hP) | contradiction | (simp only [s_owe, w_owe, iF_t (show hd M (nI ja) (nI jb) from ⟨c1, c2, fun q => c3 ((nI_eq (by omega) (by omega)).mp q)⟩), iF_t c4, tn_nI (show ja < 2 ^ 31 by omega), tn_nI (show jb < 2 ^ 31 by omega)]; exact hP) | exact hP) hS dX5_owe_61
        ·
          refine lv_bipush (v := (-2)) hx hb dX5_owe_33 (by decide) ?_
          exact hret _ _ _ _ _ (by first | with_reducible rfl | (simp only [s_owe, w_owe, iF_t (show hd M (nI ja) (nI jb) from ⟨c1, c2, fun q => c3 ((nI_eq (by omega) (by omega)).mp q)⟩), iF_f c4, tn_nI (show ja < 2 ^ 31 by omega), tn_nI (show jb < 2 ^ 31 by omega)]; done) | contradiction) (by first | with_reducible exact hP | (simp only [s_owe, w_owe, iF_t (show hd M (nI ja) (nI jb) from ⟨c1, c2, fun q => c3 ((nI_eq (by omega) (by omega)).mp q)⟩), iF_f c4, tn_nI (show ja < 2 ^ 31 by omega), tn_nI (show jb < 2 ^ 31 by omega)]; with_reducible exact hP) | contradiction | (simp only [s_owe, w_owe, iF_t (show hd M (nI ja) (nI jb) from ⟨c1, c2, fun q => c3 ((nI_eq (by omega) (by omega)).mp q)⟩), iF_f c4, tn_nI (show ja < 2 ^ 31 by omega), tn_nI (show jb < 2 ^ 31 by omega)]; exact hP) | exact hP) hS dX5_owe_35
      ·
        refine lv_iconst (v := (-1)) hx hb dX5_owe_21 (by decide) ?_
        exact hret _ _ _ _ _ (by first | with_reducible rfl | (simp only [s_owe, w_owe, iF_f (show ¬ hd M (nI ja) (nI jb) from fun h => by obtain ⟨h0, h1, h2⟩ := h; first | contradiction | (exact h2 (by rw [c3]))), tn_nI (show ja < 2 ^ 31 by omega), tn_nI (show jb < 2 ^ 31 by omega)]; done) | contradiction) (by first | with_reducible exact hP | (simp only [s_owe, w_owe, iF_f (show ¬ hd M (nI ja) (nI jb) from fun h => by obtain ⟨h0, h1, h2⟩ := h; first | contradiction | (exact h2 (by rw [c3]))), tn_nI (show ja < 2 ^ 31 by omega), tn_nI (show jb < 2 ^ 31 by omega)]; with_reducible exact hP) | contradiction | (simp only [s_owe, w_owe, iF_f (show ¬ hd M (nI ja) (nI jb) from fun h => by obtain ⟨h0, h1, h2⟩ := h; first | contradiction | (exact h2 (by rw [c3]))), tn_nI (show ja < 2 ^ 31 by omega), tn_nI (show jb < 2 ^ 31 by omega)]; exact hP) | exact hP) hS dX5_owe_22

theorem ixX5_bind_X5 : ∀ w ∈ wsX50, w ∈ wsX5_bind := fun _ h => List.mem_cons_of_mem _ (List.mem_append_right _ h)
theorem lkX5_bind_25 : Cond.fieldLink RX5 25 (TX5 9).1 (TX5 9).2.1 (TX5 9).2.2.1 ∈ wsX5_bind := List.mem_of_getElem? (i := 1) rfl
set_option maxHeartbeats 4000000 in
set_option maxRecDepth 100000 in
theorem kX5_bind (l : Launch) (G : Gl) (o : Nat) (ff : Int32) (ftr : Int32) (aso : Nat) (asl : Nat) (ace : Nat) (M : Nat) (B : Nat) (ape : Nat) (aki : Nat) (abo : Nat) (at_ : Int32) (rM : Int32) (rB : Int32) (arp : Nat) (ark : Nat) (arb : Nat) (fb : Int32) (fto : Int32) (R : Nat) (awh : Nat) (awn : Nat) (awm : Nat) (awk : Nat) (amo : Nat) (amu : Nat) (U : Nat → Int32) (b : Int32) (m0 : Int32) (hM : M ≤ 5) (hB : B ≤ 4) : Wt l G yX5_bind wsX5_bind ({ frames := 1, cells := 0, slots := 0, locals := 21 } : Room) [.ref o, .int b, .int m0] [(o, .inr (5, [.int ff, .int ftr, .ref aso, .ref asl, .ref ace, .int (nI M), .int (nI B), .ref ape, .ref aki, .ref abo, .int at_, .int rM, .int rB, .ref arp, .ref ark, .ref arb, .int fb, .int fto, .int (nI R), .ref awh, .ref awn, .ref awm, .ref awk, .ref amo, .ref amu])), (abo, aI G 4 U)] [(o, .inr (5, [.int ff, .int ftr, .ref aso, .ref asl, .ref ace, .int (nI M), .int (nI B), .ref ape, .ref aki, .ref abo, .int at_, .int rM, .int rB, .ref arp, .ref ark, .ref arb, .int fb, .int fto, .int (nI R), .ref awh, .ref awn, .ref awm, .ref awk, .ref amo, .ref amu])), (abo, aI G 4 (w_bind B M U b m0))] (some (.int (s_bind B M U b m0))) := by
  refine Wt.ofI (cc := cX5_bind) (maxL := 4) (by decide) rfl (Nat.le_of_ble_eq_true rfl) ?_
  intro p e s m below meth c Q A ls hE hP hK hD hS hl hret
  obtain ⟨hx, hb, hml, hown, hts⟩ := id hE
  have hl : lv_has ls 4 [(0, .ref o), (1, .int b), (2, .int m0)] := hl
  refine lv_aload_n hx hb dX5_bind_0 rfl (lv_at hl 0 rfl) ?_
  refine lv_iload_n hx hb dX5_bind_1 rfl (lv_at hl 1 rfl) ?_
  refine rdV (As := [.int b]) (rest := []) (ci := 5) (q0 := 0) hE (kX5_isBoy l G o ff ftr aso asl ace M B ape aki abo at_ rM rB arp ark arb fb fto R awh awn awm awk amo amu b hB) (cwV 1 hts gX5_bind_X5_isBoy rfl rfl rfl (by decide +kernel) ⟨Nat.le_of_ble_eq_true rfl, Nat.le_of_ble_eq_true rfl⟩) hP hK [0] rfl rfl rfl rfl hl.1 rfl (Nat.le_of_ble_eq_true rfl) dX5_bind_2 ⟨Nat.zero_le _, Nat.zero_le _⟩ ?_
  refine W.eq (g2 := F0 m 5 ls [.int (bI (vp_in b B))]) rfl ?_
  refine bz_eq (tgt := 16) hx hb dX5_bind_5 (by decide) (fun c1 => ?_) (fun c1 => ?_)
  ·
    refine lv_iconst (v := (-1)) hx hb dX5_bind_16 (by decide) ?_
    exact hret _ _ _ _ _ (by first | with_reducible rfl | (simp only [s_bind, w_bind, iF_f c1]; done) | contradiction) (by first | with_reducible exact hP | (simp only [s_bind, w_bind, iF_f c1]; with_reducible exact hP) | contradiction | (simp only [s_bind, w_bind, iF_f c1]; exact hP) | exact hP) hS dX5_bind_17
  ·
    obtain ⟨jb, hjb, rfl⟩ := vp_in_of c1 (by omega)
    refine lv_aload_n hx hb dX5_bind_8 rfl (lv_at hl 0 rfl) ?_
    refine lv_iload_n hx hb dX5_bind_9 rfl (lv_at hl 2 rfl) ?_
    refine rdV (As := [.int m0]) (rest := []) (ci := 5) (q0 := 0) hE (kX5_isMaster l G o ff ftr aso asl ace M B ape aki abo at_ rM rB arp ark arb fb fto R awh awn awm awk amo amu m0 hM) (cwV 1 hts gX5_bind_X5_isMaster rfl rfl rfl (by decide +kernel) ⟨Nat.le_of_ble_eq_true rfl, Nat.le_of_ble_eq_true rfl⟩) hP hK [0] rfl rfl rfl rfl hl.1 rfl (Nat.le_of_ble_eq_true rfl) dX5_bind_10 ⟨Nat.zero_le _, Nat.zero_le _⟩ ?_
    refine W.eq (g2 := F0 m 13 ls [.int (bI (vp_in m0 M))]) rfl ?_
    refine bz_ne (tgt := 18) hx hb dX5_bind_13 (by decide) (fun c2 => ?_) (fun c2 => ?_)
    ·
      refine lv_aload_n hx hb dX5_bind_18 rfl (lv_at hl 0 rfl) ?_
      refine g_get (v := .ref abo) hx hb hts ixX5_bind_X5 hown hK hP 0 rfl rfl 9 (by decide) lkX5_bind_25 rfl dX5_bind_19 ?_
      refine lv_iload_n hx hb dX5_bind_22 rfl (lv_at hl 1 rfl) ?_
      refine n_ald hx hb hK hP 1 rfl (k := jb) (by omega) (by decide) dX5_bind_23 ?_
      refine lv_istore_n (lv' := [(3, .int (U jb)), (0, .ref o), (1, .int (nI jb)), (2, .int m0)]) hx hb dX5_bind_24 rfl hl (by decide) rfl (fun ls hl => ?_)
      refine lv_aload_n hx hb dX5_bind_25 rfl (lv_at hl 1 rfl) ?_
      refine g_get (v := .ref abo) hx hb hts ixX5_bind_X5 hown hK hP 0 rfl rfl 9 (by decide) lkX5_bind_25 rfl dX5_bind_26 ?_
      refine lv_iload_n hx hb dX5_bind_29 rfl (lv_at hl 2 rfl) ?_
      refine lv_iload_n hx hb dX5_bind_30 rfl (lv_at hl 3 rfl) ?_
      refine n_ast hx hb hK hP hD hS 1 rfl (k := jb) (by omega) (by decide) dX5_bind_31 (fun H locs hP hD hS => ?_)
      have hP : va_P G.1 vwCl [(o, .inr (5, [.int ff, .int ftr, .ref aso, .ref asl, .ref ace, .int (nI M), .int (nI B), .ref ape, .ref aki, .ref abo, .int at_, .int rM, .int rB, .ref arp, .ref ark, .ref arb, .int fb, .int fto, .int (nI R), .ref awh, .ref awn, .ref awm, .ref awk, .ref amo, .ref amu])), (abo, aI G 4 (upd U jb m0))] H := hP
      have hD : va_D A [(o, .inr (5, [.int ff, .int ftr, .ref aso, .ref asl, .ref ace, .int (nI M), .int (nI B), .ref ape, .ref aki, .ref abo, .int at_, .int rM, .int rB, .ref arp, .ref ark, .ref arb, .int fb, .int fto, .int (nI R), .ref awh, .ref awn, .ref awm, .ref awk, .ref amo, .ref amu])), (abo, aI G 4 (upd U jb m0))] := hD
      refine lv_iload_n hx hb dX5_bind_32 rfl (lv_at hl 0 rfl) ?_
      exact hret _ _ _ _ _ (by first | with_reducible rfl | (simp only [s_bind, w_bind, iF_t c1, iF_t c2, tn_nI (show jb < 2 ^ 31 by omega)]; done) | contradiction) (by first | with_reducible exact hP | (simp only [s_bind, w_bind, iF_t c1, iF_t c2, tn_nI (show jb < 2 ^ 31 by omega)]; with_reducible exact hP) | contradiction | (simp only [s_bind, w_bind, iF_t c1, iF_t c2, tn_nI (show jb < 2 ^ 31 by omega)]; exact hP) | exact hP) hS dX5_bind_33
    ·
      refine lv_iconst (v := (-1)) hx hb dX5_bind_16 (by decide) ?_
      exact hret _ _ _ _ _ (by first | with_reducible rfl | (simp only [s_bind, w_bind, iF_t c1, iF_f c2, tn_nI (show jb < 2 ^ 31 by omega)]; done) | contradiction) (by first | with_reducible exact hP | (simp only [s_bind, w_bind, iF_t c1, iF_f c2, tn_nI (show jb < 2 ^ 31 by omega)]; with_reducible exact hP) | contradiction | (simp only [s_bind, w_bind, iF_t c1, iF_f c2, tn_nI (show jb < 2 ^ 31 by omega)]; exact hP) | exact hP) hS dX5_bind_17

theorem ixX5_nextOf_X5 : ∀ w ∈ wsX50, w ∈ wsX5_nextOf := fun _ h => List.mem_cons_of_mem _ (List.mem_append_right _ h)
theorem lkX5_nextOf_65 : Cond.fieldLink RX5 65 (TX5 5).1 (TX5 5).2.1 (TX5 5).2.2.1 ∈ wsX5_nextOf := List.mem_of_getElem? (i := 1) rfl
theorem lkX5_nextOf_19 : Cond.fieldLink RX5 19 (TX5 7).1 (TX5 7).2.1 (TX5 7).2.2.1 ∈ wsX5_nextOf := List.mem_of_getElem? (i := 2) rfl
set_option maxHeartbeats 4000000 in
set_option maxRecDepth 100000 in
theorem kX5_nextOf (l : Launch) (G : Gl) (o : Nat) (ff : Int32) (ftr : Int32) (aso : Nat) (asl : Nat) (ace : Nat) (M : Nat) (B : Nat) (ape : Nat) (aki : Nat) (abo : Nat) (at_ : Int32) (rM : Int32) (rB : Int32) (arp : Nat) (ark : Nat) (arb : Nat) (fb : Int32) (fto : Int32) (R : Nat) (awh : Nat) (awn : Nat) (awm : Nat) (awk : Nat) (amo : Nat) (amu : Nat) (P : Nat → Int32) (m0 : Nat) (hM : M ≤ 5) (hm : m0 < M) : Rd l G yX5_nextOf wsX5_nextOf ({ frames := 1, cells := 0, slots := 0, locals := 21 } : Room) [.ref o, .int (nI m0)] [(o, .inr (5, [.int ff, .int ftr, .ref aso, .ref asl, .ref ace, .int (nI M), .int (nI B), .ref ape, .ref aki, .ref abo, .int at_, .int rM, .int rB, .ref arp, .ref ark, .ref arb, .int fb, .int fto, .int (nI R), .ref awh, .ref awn, .ref awm, .ref awk, .ref amo, .ref amu])), (ape, aI G 25 P)] (some (.int (nI (nxt P M m0)))) := by
  refine Rd.ofI (cc := cX5_nextOf) (maxL := 4) (by decide) rfl (Nat.le_of_ble_eq_true rfl) ?_
  intro p e s m below meth c Q ls hE hP hK hl hret
  obtain ⟨hx, hb, hml, hown, hts⟩ := id hE
  have hl : lv_has ls 4 [(0, .ref o), (1, .int (nI m0))] := hl
  refine lv_iload_n hx hb dX5_nextOf_0 rfl (lv_at hl 1 rfl) ?_
  refine lv_istore_n (lv' := [(2, .int (nI m0)), (0, .ref o), (1, .int (nI m0))]) hx hb dX5_nextOf_1 rfl hl (by decide) rfl (fun ls hl => ?_)
  refine lv_iconst (v := nI 0) hx hb dX5_nextOf_2 (by decide) ?_
  refine lv_istore_n (lv' := [(3, .int (nI 0)), (2, .int (nI m0)), (0, .ref o), (1, .int (nI m0))]) hx hb dX5_nextOf_3 rfl hl (by decide) rfl (fun ls hl => ?_)
  have loop1 : ∀ (d k : Nat) (ls : Array Slot), M < k + d → k ≤ M → lv_has ls 4 [(3, .int (nI k)), (2, .int (nI (nx P m0 k))), (0, .ref o), (1, .int (nI m0))] → W p l e ({ frames := 1, cells := 0, slots := 0, locals := 21 } : Room) s m ([.ref o, .int (nI m0)] : List Value).toArray below meth c s.heap [] 0 0 Q (F0 m 4 ls []) := by
    intro d
    induction d with
    | zero =>
      intro k ls h1 h2
      omega
    | succ d ih1 =>
      intro k ls hdk hbk hl
      refine lv_iload_n hx hb dX5_nextOf_4 rfl (lv_at hl 0 rfl) ?_
      refine lv_aload_n hx hb dX5_nextOf_5 rfl (lv_at hl 2 rfl) ?_
      refine g_get (v := .int (nI M)) hx hb hts ixX5_nextOf_X5 hown hK hP 0 rfl rfl 5 (by decide) lkX5_nextOf_65 rfl dX5_nextOf_6 ?_
      refine ic_ge (tgt := 47) hx hb (by omega) (by omega) dX5_nextOf_9 (by decide) (fun c1 => ?_) (fun c1 => ?_)
      ·
        obtain rfl : M = k := by omega
        refine lv_iload_n hx hb dX5_nextOf_47 rfl (lv_at hl 1 rfl) ?_
        exact hret _ _ _ (rfl) dX5_nextOf_48
      ·
        have hnl := nx_lt (P := P) hm k (by omega)
        refine lv_aload_n hx hb dX5_nextOf_12 rfl (lv_at hl 2 rfl) ?_
        refine g_get (v := .ref ape) hx hb hts ixX5_nextOf_X5 hown hK hP 0 rfl rfl 7 (by decide) lkX5_nextOf_19 rfl dX5_nextOf_13 ?_
        refine lv_iload_n hx hb dX5_nextOf_16 rfl (lv_at hl 3 rfl) ?_
        refine lv_iload_n hx hb dX5_nextOf_17 rfl (lv_at hl 0 rfl) ?_
        refine rdS (As := [.int (nI m0), .int (nI k)]) (rest := [.ref ape]) hE (kX5_spot l G m0 k ) (va_cwS 2 hts gX5_nextOf_X5_spot rfl rfl rfl (by decide +kernel) ⟨Nat.le_of_ble_eq_true rfl, Nat.le_of_ble_eq_true rfl⟩) hP hK [] rfl rfl hl.1 rfl (Nat.le_of_ble_eq_true rfl) dX5_nextOf_18 ⟨Nat.zero_le _, Nat.zero_le _⟩ ?_
        refine W.eq (g2 := F0 m 21 ls [.int (nI (m0 * 5 + k)), .ref ape]) rfl ?_
        refine n_ald hx hb hK hP 1 rfl (k := m0 * 5 + k) (by omega) (by decide) dX5_nextOf_21 ?_
        refine lv_aload_n hx hb dX5_nextOf_22 rfl (lv_at hl 2 rfl) ?_
        refine g_get (v := .ref ape) hx hb hts ixX5_nextOf_X5 hown hK hP 0 rfl rfl 7 (by decide) lkX5_nextOf_19 rfl dX5_nextOf_23 ?_
        refine lv_iload_n hx hb dX5_nextOf_26 rfl (lv_at hl 3 rfl) ?_
        refine lv_iload_n hx hb dX5_nextOf_27 rfl (lv_at hl 1 rfl) ?_
        refine rdS (As := [.int (nI m0), .int (nI (nx P m0 k))]) (rest := [.ref ape, .int (P (m0 * 5 + k))]) hE (kX5_spot l G m0 (nx P m0 k) ) (va_cwS 2 hts gX5_nextOf_X5_spot rfl rfl rfl (by decide +kernel) ⟨Nat.le_of_ble_eq_true rfl, Nat.le_of_ble_eq_true rfl⟩) hP hK [] rfl rfl hl.1 rfl (Nat.le_of_ble_eq_true rfl) dX5_nextOf_28 ⟨Nat.zero_le _, Nat.zero_le _⟩ ?_
        refine W.eq (g2 := F0 m 31 ls [.int (nI (m0 * 5 + (nx P m0 k))), .ref ape, .int (P (m0 * 5 + k))]) rfl ?_
        refine n_ald hx hb hK hP 1 rfl (k := m0 * 5 + (nx P m0 k)) (by omega) (by decide) dX5_nextOf_31 ?_
        refine lv_icmp_le (tgt := 39) hx hb dX5_nextOf_32 (by decide) (fun c2 => ?_) (fun c2 => ?_)
        ·
          refine lv_iload_n hx hb dX5_nextOf_39 rfl (lv_at hl 1 rfl) ?_
          refine lv_istore_n (lv' := [(2, .int (nI (nx P m0 k))), (3, .int (nI k)), (0, .ref o), (1, .int (nI m0))]) hx hb dX5_nextOf_40 rfl hl (by decide) rfl (fun ls hl => ?_)
          refine lv_iinc (v := nI (k + 1)) (lv' := [(3, .int (nI (k + 1))), (2, .int (nI (nx P m0 k))), (0, .ref o), (1, .int (nI m0))]) hx hb dX5_nextOf_41 hl (k := 1) rfl (show nI k + Int32.ofInt 1 = nI (k + 1) from nI_add _ 1) (by decide) rfl (fun ls hl => ?_)
          refine lv_goto (tgt := 4) hx hb dX5_nextOf_44 (by decide) ?_
          have hl3 : lv_has ls 4 [(3, .int (nI (k + 1))), (2, .int (nI (nx P m0 (k + 1)))), (0, .ref o), (1, .int (nI m0))] := by
            rw [show (nI (nx P m0 (k + 1))) = (nI (nx P m0 k)) from by first | rfl | simp only [nx, iF_t c1, iF_t c2, iF_f (i32_le c2)]]
            exact (lv_sub hl [0, 1, 2, 3] rfl)
          exact ih1 (k + 1) ls (by omega) (by omega) hl3
        ·
          refine lv_iload_n hx hb dX5_nextOf_35 rfl (lv_at hl 0 rfl) ?_
          refine lv_goto (tgt := 40) hx hb dX5_nextOf_36 (by decide) ?_
          refine lv_istore_n (lv' := [(2, .int (nI k)), (3, .int (nI k)), (0, .ref o), (1, .int (nI m0))]) hx hb dX5_nextOf_40 rfl hl (by decide) rfl (fun ls hl => ?_)
          refine lv_iinc (v := nI (k + 1)) (lv' := [(3, .int (nI (k + 1))), (2, .int (nI k)), (0, .ref o), (1, .int (nI m0))]) hx hb dX5_nextOf_41 hl (k := 1) rfl (show nI k + Int32.ofInt 1 = nI (k + 1) from nI_add _ 1) (by decide) rfl (fun ls hl => ?_)
          refine lv_goto (tgt := 4) hx hb dX5_nextOf_44 (by decide) ?_
          have hl4 : lv_has ls 4 [(3, .int (nI (k + 1))), (2, .int (nI (nx P m0 (k + 1)))), (0, .ref o), (1, .int (nI m0))] := by
            rw [show (nI (nx P m0 (k + 1))) = (nI k) from by first | rfl | simp only [nx, iF_t c1, iF_f c2, iF_t (i32_nle c2)]]
            exact (lv_sub hl [0, 1, 2, 3] rfl)
          exact ih1 (k + 1) ls (by omega) (by omega) hl4
  have hl5 : lv_has ls 4 [(3, .int (nI 0)), (2, .int (nI (nx P m0 0))), (0, .ref o), (1, .int (nI m0))] := by
    rw [show (nI (nx P m0 0)) = (nI m0) from by first | rfl | simp only [nx]]
    exact (lv_sub hl [0, 1, 2, 3] rfl)
  exact loop1 (M + 1) 0 ls (by omega) (by omega) hl5

set_option maxHeartbeats 4000000 in
set_option maxRecDepth 100000 in
theorem kX5_next (l : Launch) (G : Gl) (o : Nat) (ff : Int32) (ftr : Int32) (aso : Nat) (asl : Nat) (ace : Nat) (M : Nat) (B : Nat) (ape : Nat) (aki : Nat) (abo : Nat) (at_ : Int32) (rM : Int32) (rB : Int32) (arp : Nat) (ark : Nat) (arb : Nat) (fb : Int32) (fto : Int32) (R : Nat) (awh : Nat) (awn : Nat) (awm : Nat) (awk : Nat) (amo : Nat) (amu : Nat) (P : Nat → Int32) (m0 : Int32) (hM : M ≤ 5) : Rd l G yX5_next wsX5_next ({ frames := 2, cells := 0, slots := 0, locals := 44 } : Room) [.ref o, .int m0] [(o, .inr (5, [.int ff, .int ftr, .ref aso, .ref asl, .ref ace, .int (nI M), .int (nI B), .ref ape, .ref aki, .ref abo, .int at_, .int rM, .int rB, .ref arp, .ref ark, .ref arb, .int fb, .int fto, .int (nI R), .ref awh, .ref awn, .ref awm, .ref awk, .ref amo, .ref amu])), (ape, aI G 25 P)] (some (.int (s_next M P m0))) := by
  refine Rd.ofI (cc := cX5_next) (maxL := 2) (by decide) rfl (Nat.le_of_ble_eq_true rfl) ?_
  intro p e s m below meth c Q ls hE hP hK hl hret
  obtain ⟨hx, hb, hml, hown, hts⟩ := id hE
  have hl : lv_has ls 2 [(0, .ref o), (1, .int m0)] := hl
  refine lv_aload_n hx hb dX5_next_0 rfl (lv_at hl 0 rfl) ?_
  refine lv_iload_n hx hb dX5_next_1 rfl (lv_at hl 1 rfl) ?_
  refine rdV (As := [.int m0]) (rest := []) (ci := 5) (q0 := 0) hE (kX5_isMaster l G o ff ftr aso asl ace M B ape aki abo at_ rM rB arp ark arb fb fto R awh awn awm awk amo amu m0 hM) (cwV 1 hts gX5_next_X5_isMaster rfl rfl rfl (by decide +kernel) ⟨Nat.le_of_ble_eq_true rfl, Nat.le_of_ble_eq_true rfl⟩) hP hK [0] rfl rfl rfl rfl hl.1 rfl (Nat.le_of_ble_eq_true rfl) dX5_next_2 ⟨Nat.zero_le _, Nat.zero_le _⟩ ?_
  refine W.eq (g2 := F0 m 5 ls [.int (bI (vp_in m0 M))]) rfl ?_
  refine bz_eq (tgt := 16) hx hb dX5_next_5 (by decide) (fun c1 => ?_) (fun c1 => ?_)
  ·
    refine lv_iconst (v := (-1)) hx hb dX5_next_16 (by decide) ?_
    exact hret _ _ _ (by first | with_reducible rfl | (simp only [s_next, iF_f c1]; done) | contradiction) dX5_next_17
  ·
    obtain ⟨jm0, hjm0, rfl⟩ := vp_in_of c1 (by omega)
    refine lv_aload_n hx hb dX5_next_8 rfl (lv_at hl 0 rfl) ?_
    refine lv_iload_n hx hb dX5_next_9 rfl (lv_at hl 1 rfl) ?_
    refine rdV (As := [.int (nI jm0)]) (rest := []) (ci := 5) (q0 := 0) hE (kX5_nextOf l G o ff ftr aso asl ace M B ape aki abo at_ rM rB arp ark arb fb fto R awh awn awm awk amo amu P jm0 hM hjm0) (cwV 1 hts gX5_next_X5_nextOf rfl rfl rfl (by decide +kernel) ⟨Nat.le_of_ble_eq_true rfl, Nat.le_of_ble_eq_true rfl⟩) hP hK [0, 1] rfl rfl rfl rfl hl.1 rfl (Nat.le_of_ble_eq_true rfl) dX5_next_10 ⟨Nat.zero_le _, Nat.zero_le _⟩ ?_
    refine W.eq (g2 := F0 m 13 ls [.int (nI (nxt P M jm0))]) rfl ?_
    refine lv_goto (tgt := 17) hx hb dX5_next_13 (by decide) ?_
    exact hret _ _ _ (by first | with_reducible rfl | (simp only [s_next, iF_t c1, tn_nI (show jm0 < 2 ^ 31 by omega)]; done) | contradiction) dX5_next_17

theorem ixX5_whereOf_X5 : ∀ w ∈ wsX50, w ∈ wsX5_whereOf := fun _ h => List.mem_cons_of_mem _ (List.mem_append_right _ h)
theorem lkX5_whereOf_25 : Cond.fieldLink RX5 25 (TX5 9).1 (TX5 9).2.1 (TX5 9).2.2.1 ∈ wsX5_whereOf := List.mem_of_getElem? (i := 1) rfl
set_option maxHeartbeats 4000000 in
set_option maxRecDepth 100000 in
theorem kX5_whereOf (l : Launch) (G : Gl) (o : Nat) (ff : Int32) (ftr : Int32) (aso : Nat) (asl : Nat) (ace : Nat) (M : Nat) (B : Nat) (ape : Nat) (aki : Nat) (abo : Nat) (at_ : Int32) (rM : Int32) (rB : Int32) (arp : Nat) (ark : Nat) (arb : Nat) (fb : Int32) (fto : Int32) (R : Nat) (awh : Nat) (awn : Nat) (awm : Nat) (awk : Nat) (amo : Nat) (amu : Nat) (P : Nat → Int32) (U : Nat → Int32) (b : Nat) (n : Nat) (hM : M ≤ 5) (hb4 : b < 4) (hu : vp_in (U b) M) (hn : n ≤ 60) : Rd l G yX5_whereOf wsX5_whereOf ({ frames := 2, cells := 0, slots := 0, locals := 44 } : Room) [.ref o, .int (nI b), .int (nI n)] [(o, .inr (5, [.int ff, .int ftr, .ref aso, .ref asl, .ref ace, .int (nI M), .int (nI B), .ref ape, .ref aki, .ref abo, .int at_, .int rM, .int rB, .ref arp, .ref ark, .ref arb, .int fb, .int fto, .int (nI R), .ref awh, .ref awn, .ref awm, .ref awk, .ref amo, .ref amu])), (ape, aI G 25 P), (abo, aI G 4 U)] (some (.int (nI (wh P M (tn (U b)) n)))) := by
  refine Rd.ofI (cc := cX5_whereOf) (maxL := 5) (by decide) rfl (Nat.le_of_ble_eq_true rfl) ?_
  intro p e s m below meth c Q ls hE hP hK hl hret
  obtain ⟨hx, hb, hml, hown, hts⟩ := id hE
  have hl : lv_has ls 5 [(0, .ref o), (1, .int (nI b)), (2, .int (nI n))] := hl
  refine lv_aload_n hx hb dX5_whereOf_0 rfl (lv_at hl 0 rfl) ?_
  refine g_get (v := .ref abo) hx hb hts ixX5_whereOf_X5 hown hK hP 0 rfl rfl 9 (by decide) lkX5_whereOf_25 rfl dX5_whereOf_1 ?_
  refine lv_iload_n hx hb dX5_whereOf_4 rfl (lv_at hl 1 rfl) ?_
  refine n_ald hx hb hK hP 2 rfl (k := b) (by omega) (by decide) dX5_whereOf_5 ?_
  refine lv_tope (show U b = nI (tn (U b)) from tn_of hu (by omega)) ?_
  refine lv_istore_n (lv' := [(3, .int (nI (tn (U b)))), (0, .ref o), (1, .int (nI b)), (2, .int (nI n))]) hx hb dX5_whereOf_6 rfl hl (by decide) rfl (fun ls hl => ?_)
  refine lv_iconst (v := nI 0) hx hb dX5_whereOf_7 (by decide) ?_
  refine lv_istore (lv' := [(4, .int (nI 0)), (3, .int (nI (tn (U b)))), (0, .ref o), (1, .int (nI b)), (2, .int (nI n))]) hx hb dX5_whereOf_8 hl (by decide) rfl (fun ls hl => ?_)
  have loop1 : ∀ (d k : Nat) (ls : Array Slot), n < k + d → k ≤ n → lv_has ls 5 [(4, .int (nI k)), (3, .int (nI (wh P M (tn (U b)) k))), (0, .ref o), (1, .int (nI b)), (2, .int (nI n))] → W p l e ({ frames := 2, cells := 0, slots := 0, locals := 44 } : Room) s m ([.ref o, .int (nI b), .int (nI n)] : List Value).toArray below meth c s.heap [] 0 0 Q (F0 m 10 ls []) := by
    intro d
    induction d with
    | zero =>
      intro k ls h1 h2
      omega
    | succ d ih1 =>
      intro k ls hdk hbk hl
      refine lv_iload hx hb dX5_whereOf_10 (lv_at hl 0 rfl) ?_
      refine lv_iload_n hx hb dX5_whereOf_12 rfl (lv_at hl 4 rfl) ?_
      refine ic_ge (tgt := 28) hx hb (by omega) (by omega) dX5_whereOf_13 (by decide) (fun c1 => ?_) (fun c1 => ?_)
      ·
        obtain rfl : n = k := by omega
        refine lv_iload_n hx hb dX5_whereOf_28 rfl (lv_at hl 1 rfl) ?_
        exact hret _ _ _ (by first | with_reducible rfl | (simp only [iF_f (Nat.not_lt.mpr c1)]; done) | contradiction) dX5_whereOf_29
      ·
        refine lv_aload_n hx hb dX5_whereOf_16 rfl (lv_at hl 2 rfl) ?_
        refine lv_iload_n hx hb dX5_whereOf_17 rfl (lv_at hl 1 rfl) ?_
        refine rdV (As := [.int (nI (wh P M (tn (U b)) k))]) (rest := []) (ci := 5) (q0 := 0) hE (kX5_nextOf l G o ff ftr aso asl ace M B ape aki abo at_ rM rB arp ark arb fb fto R awh awn awm awk amo amu P (wh P M (tn (U b)) k) hM (wh_lt (tn_lt hu (by omega)) k)) (cwV 1 hts gX5_whereOf_X5_nextOf rfl rfl rfl (by decide +kernel) ⟨Nat.le_of_ble_eq_true rfl, Nat.le_of_ble_eq_true rfl⟩) hP hK [0, 1] rfl rfl rfl rfl hl.1 rfl (Nat.le_of_ble_eq_true rfl) dX5_whereOf_18 ⟨Nat.zero_le _, Nat.zero_le _⟩ ?_
        refine W.eq (g2 := F0 m 21 ls [.int (nI (nxt P M (wh P M (tn (U b)) k)))]) rfl ?_
        refine lv_istore_n (lv' := [(3, .int (nI (nxt P M (wh P M (tn (U b)) k)))), (4, .int (nI k)), (0, .ref o), (1, .int (nI b)), (2, .int (nI n))]) hx hb dX5_whereOf_21 rfl hl (by decide) rfl (fun ls hl => ?_)
        refine lv_iinc (v := nI (k + 1)) (lv' := [(4, .int (nI (k + 1))), (3, .int (nI (nxt P M (wh P M (tn (U b)) k)))), (0, .ref o), (1, .int (nI b)), (2, .int (nI n))]) hx hb dX5_whereOf_22 hl (k := 1) rfl (show nI k + Int32.ofInt 1 = nI (k + 1) from nI_add _ 1) (by decide) rfl (fun ls hl => ?_)
        refine lv_goto (tgt := 10) hx hb dX5_whereOf_25 (by decide) ?_
        have hl2 : lv_has ls 5 [(4, .int (nI (k + 1))), (3, .int (nI (wh P M (tn (U b)) (k + 1)))), (0, .ref o), (1, .int (nI b)), (2, .int (nI n))] := by
          rw [show (nI (wh P M (tn (U b)) (k + 1))) = (nI (nxt P M (wh P M (tn (U b)) k))) from by first | rfl | simp only [wh, iF_t c1]]
          exact (lv_sub hl [0, 1, 2, 3, 4] rfl)
        exact ih1 (k + 1) ls (by omega) (by omega) hl2
  have hl3 : lv_has ls 5 [(4, .int (nI 0)), (3, .int (nI (wh P M (tn (U b)) 0))), (0, .ref o), (1, .int (nI b)), (2, .int (nI n))] := by
    rw [show (nI (wh P M (tn (U b)) 0)) = (nI (tn (U b))) from by first | rfl | simp only [wh]]
    exact (lv_sub hl [0, 1, 2, 3, 4] rfl)
  exact loop1 (n + 1) 0 ls (by omega) (by omega) hl3

theorem ixX5_knowsOf_X5 : ∀ w ∈ wsX50, w ∈ wsX5_knowsOf := fun _ h => List.mem_cons_of_mem _ (List.mem_append_right _ h)
theorem lkX5_knowsOf_25 : Cond.fieldLink RX5 25 (TX5 9).1 (TX5 9).2.1 (TX5 9).2.2.1 ∈ wsX5_knowsOf := List.mem_of_getElem? (i := 1) rfl
set_option maxHeartbeats 4000000 in
set_option maxRecDepth 100000 in
theorem kX5_knowsOf (l : Launch) (G : Gl) (o : Nat) (ff : Int32) (ftr : Int32) (aso : Nat) (asl : Nat) (ace : Nat) (M : Nat) (B : Nat) (ape : Nat) (aki : Nat) (abo : Nat) (at_ : Int32) (rM : Int32) (rB : Int32) (arp : Nat) (ark : Nat) (arb : Nat) (fb : Int32) (fto : Int32) (R : Nat) (awh : Nat) (awn : Nat) (awm : Nat) (awk : Nat) (amo : Nat) (amu : Nat) (P : Nat → Int32) (K : Nat → Int32) (U : Nat → Int32) (b : Nat) (tr : Nat) (n : Nat) (hM : M ≤ 5) (hb4 : b < 4) (hu : vp_in (U b) M) (hk : kd (K b)) (htr : tr < M) (hn : n ≤ 60) : Rd l G yX5_knowsOf wsX5_knowsOf ({ frames := 2, cells := 0, slots := 0, locals := 44 } : Room) [.ref o, .int (nI b), .int (nI tr), .int (nI n)] [(o, .inr (5, [.int ff, .int ftr, .ref aso, .ref asl, .ref ace, .int (nI M), .int (nI B), .ref ape, .ref aki, .ref abo, .int at_, .int rM, .int rB, .ref arp, .ref ark, .ref arb, .int fb, .int fto, .int (nI R), .ref awh, .ref awn, .ref awm, .ref awk, .ref amo, .ref amu])), (ape, aI G 25 P), (aki, aI G 4 K), (abo, aI G 4 U)] (some (.int (kn P M tr (lrn (K b)) (tn (U b)) n))) := by
  refine Rd.ofI (cc := cX5_knowsOf) (maxL := 7) (by decide) rfl (Nat.le_of_ble_eq_true rfl) ?_
  intro p e s m below meth c Q ls hE hP hK hl hret
  obtain ⟨hx, hb, hml, hown, hts⟩ := id hE
  have hl : lv_has ls 7 [(0, .ref o), (1, .int (nI b)), (2, .int (nI tr)), (3, .int (nI n))] := hl
  refine lv_aload_n hx hb dX5_knowsOf_0 rfl (lv_at hl 0 rfl) ?_
  refine g_get (v := .ref abo) hx hb hts ixX5_knowsOf_X5 hown hK hP 0 rfl rfl 9 (by decide) lkX5_knowsOf_25 rfl dX5_knowsOf_1 ?_
  refine lv_iload_n hx hb dX5_knowsOf_4 rfl (lv_at hl 1 rfl) ?_
  refine n_ald hx hb hK hP 3 rfl (k := b) (by omega) (by decide) dX5_knowsOf_5 ?_
  refine lv_tope (show U b = nI (tn (U b)) from tn_of hu (by omega)) ?_
  refine lv_istore (lv' := [(4, .int (nI (tn (U b)))), (0, .ref o), (1, .int (nI b)), (2, .int (nI tr)), (3, .int (nI n))]) hx hb dX5_knowsOf_6 hl (by decide) rfl (fun ls hl => ?_)
  refine lv_iconst (v := nI 0) hx hb dX5_knowsOf_8 (by decide) ?_
  refine lv_istore (lv' := [(5, .int (nI 0)), (4, .int (nI (tn (U b)))), (0, .ref o), (1, .int (nI b)), (2, .int (nI tr)), (3, .int (nI n))]) hx hb dX5_knowsOf_9 hl (by decide) rfl (fun ls hl => ?_)
  refine lv_iconst (v := nI 0) hx hb dX5_knowsOf_11 (by decide) ?_
  refine lv_istore (lv' := [(6, .int (nI 0)), (5, .int (nI 0)), (4, .int (nI (tn (U b)))), (0, .ref o), (1, .int (nI b)), (2, .int (nI tr)), (3, .int (nI n))]) hx hb dX5_knowsOf_12 hl (by decide) rfl (fun ls hl => ?_)
  have loop1 : ∀ (d k : Nat) (ls : Array Slot), n < k + d → k ≤ n → lv_has ls 7 [(6, .int (nI k)), (5, .int (kn P M tr (lrn (K b)) (tn (U b)) k)), (4, .int (nI (wh P M (tn (U b)) k))), (0, .ref o), (1, .int (nI b)), (2, .int (nI tr)), (3, .int (nI n))] → W p l e ({ frames := 2, cells := 0, slots := 0, locals := 44 } : Room) s m ([.ref o, .int (nI b), .int (nI tr), .int (nI n)] : List Value).toArray below meth c s.heap [] 0 0 Q (F0 m 14 ls []) := by
    intro d
    induction d with
    | zero =>
      intro k ls h1 h2
      omega
    | succ d ih1 =>
      intro k ls hdk hbk hl
      refine lv_iload hx hb dX5_knowsOf_14 (lv_at hl 0 rfl) ?_
      refine lv_iload_n hx hb dX5_knowsOf_16 rfl (lv_at hl 6 rfl) ?_
      refine ic_ge (tgt := 63) hx hb (by omega) (by omega) dX5_knowsOf_17 (by decide) (fun c1 => ?_) (fun c1 => ?_)
      ·
        obtain rfl : n = k := by omega
        refine lv_iload hx hb dX5_knowsOf_63 (lv_at hl 1 rfl) ?_
        exact hret _ _ _ (by first | with_reducible rfl | (simp only [iF_f (Nat.not_lt.mpr c1)]; done) | contradiction) dX5_knowsOf_65
      ·
        have hwk := wh_lt (P := P) (tn_lt hu (by omega)) k
        refine lv_iload hx hb dX5_knowsOf_20 (lv_at hl 1 rfl) ?_
        refine lv_iload hx hb dX5_knowsOf_22 (lv_at hl 1 rfl) ?_
        refine lv_iconst (v := nI 3) hx hb dX5_knowsOf_24 (by decide) ?_
        refine lv_idiv hx hb dX5_knowsOf_25 (by decide) ?_
        refine lv_isub hx hb dX5_knowsOf_26 ?_
        refine lv_istore (lv' := [(5, .int ((kn P M tr (lrn (K b)) (tn (U b)) k) - ((kn P M tr (lrn (K b)) (tn (U b)) k) / (nI 3)))), (6, .int (nI k)), (4, .int (nI (wh P M (tn (U b)) k))), (0, .ref o), (1, .int (nI b)), (2, .int (nI tr)), (3, .int (nI n))]) hx hb dX5_knowsOf_27 hl (by decide) rfl (fun ls hl => ?_)
        refine lv_iload hx hb dX5_knowsOf_29 (lv_at hl 0 rfl) ?_
        refine lv_iload hx hb dX5_knowsOf_31 (lv_at hl 2 rfl) ?_
        refine lv_iload_n hx hb dX5_knowsOf_33 rfl (lv_at hl 5 rfl) ?_
        refine ic_ne (tgt := 45) hx hb (by omega) (by omega) dX5_knowsOf_34 (by decide) (fun c2 => ?_) (fun c2 => ?_)
        ·
          refine lv_iconst (v := nI 0) hx hb dX5_knowsOf_45 (by decide) ?_
          refine lv_iadd hx hb dX5_knowsOf_46 ?_
          refine lv_istore (lv' := [(5, .int (((kn P M tr (lrn (K b)) (tn (U b)) k) - ((kn P M tr (lrn (K b)) (tn (U b)) k) / (nI 3))) + (nI 0))), (6, .int (nI k)), (4, .int (nI (wh P M (tn (U b)) k))), (0, .ref o), (1, .int (nI b)), (2, .int (nI tr)), (3, .int (nI n))]) hx hb dX5_knowsOf_47 hl (by decide) rfl (fun ls hl => ?_)
          refine lv_aload_n hx hb dX5_knowsOf_49 rfl (lv_at hl 3 rfl) ?_
          refine lv_iload hx hb dX5_knowsOf_50 (lv_at hl 2 rfl) ?_
          refine rdV (As := [.int (nI (wh P M (tn (U b)) k))]) (rest := []) (ci := 5) (q0 := 0) hE (kX5_nextOf l G o ff ftr aso asl ace M B ape aki abo at_ rM rB arp ark arb fb fto R awh awn awm awk amo amu P (wh P M (tn (U b)) k) hM hwk) (cwV 1 hts gX5_knowsOf_X5_nextOf rfl rfl rfl (by decide +kernel) ⟨Nat.le_of_ble_eq_true rfl, Nat.le_of_ble_eq_true rfl⟩) hP hK [0, 1] rfl rfl rfl rfl hl.1 rfl (Nat.le_of_ble_eq_true rfl) dX5_knowsOf_52 ⟨Nat.zero_le _, Nat.zero_le _⟩ ?_
          refine W.eq (g2 := F0 m 55 ls [.int (nI (nxt P M (wh P M (tn (U b)) k)))]) rfl ?_
          refine lv_istore (lv' := [(4, .int (nI (nxt P M (wh P M (tn (U b)) k)))), (5, .int (((kn P M tr (lrn (K b)) (tn (U b)) k) - ((kn P M tr (lrn (K b)) (tn (U b)) k) / (nI 3))) + (nI 0))), (6, .int (nI k)), (0, .ref o), (1, .int (nI b)), (2, .int (nI tr)), (3, .int (nI n))]) hx hb dX5_knowsOf_55 hl (by decide) rfl (fun ls hl => ?_)
          refine lv_iinc (v := nI (k + 1)) (lv' := [(6, .int (nI (k + 1))), (4, .int (nI (nxt P M (wh P M (tn (U b)) k)))), (5, .int (((kn P M tr (lrn (K b)) (tn (U b)) k) - ((kn P M tr (lrn (K b)) (tn (U b)) k) / (nI 3))) + (nI 0))), (0, .ref o), (1, .int (nI b)), (2, .int (nI tr)), (3, .int (nI n))]) hx hb dX5_knowsOf_57 hl (k := 2) rfl (show nI k + Int32.ofInt 1 = nI (k + 1) from nI_add _ 1) (by decide) rfl (fun ls hl => ?_)
          refine lv_goto (tgt := 14) hx hb dX5_knowsOf_60 (by decide) ?_
          have hl3 : lv_has ls 7 [(6, .int (nI (k + 1))), (5, .int (kn P M tr (lrn (K b)) (tn (U b)) (k + 1))), (4, .int (nI (wh P M (tn (U b)) (k + 1)))), (0, .ref o), (1, .int (nI b)), (2, .int (nI tr)), (3, .int (nI n))] := by
            rw [show (kn P M tr (lrn (K b)) (tn (U b)) (k + 1)) = (((kn P M tr (lrn (K b)) (tn (U b)) k) - ((kn P M tr (lrn (K b)) (tn (U b)) k) / (nI 3))) + (nI 0)) from by first | rfl | simp only [kn, wh, add0, iF_t c1, iF_f c2]]
            rw [show (nI (wh P M (tn (U b)) (k + 1))) = (nI (nxt P M (wh P M (tn (U b)) k))) from by first | rfl | simp only [kn, wh, add0, iF_t c1, iF_f c2]]
            exact (lv_sub hl [0, 2, 1, 3, 4, 5, 6] rfl)
          exact ih1 (k + 1) ls (by omega) (by omega) hl3
        ·
          refine lv_aload_n hx hb dX5_knowsOf_37 rfl (lv_at hl 3 rfl) ?_
          refine lv_iload_n hx hb dX5_knowsOf_38 rfl (lv_at hl 4 rfl) ?_
          refine rdV (As := [.int (nI b)]) (rest := [.int ((kn P M tr (lrn (K b)) (tn (U b)) k) - ((kn P M tr (lrn (K b)) (tn (U b)) k) / (nI 3)))]) (ci := 5) (q0 := 0) hE (kX5_learns l G o ff ftr aso asl ace M B ape aki abo at_ rM rB arp ark arb fb fto R awh awn awm awk amo amu K b hb4 hk) (cwV 1 hts gX5_knowsOf_X5_learns rfl rfl rfl (by decide +kernel) ⟨Nat.le_of_ble_eq_true rfl, Nat.le_of_ble_eq_true rfl⟩) hP hK [0, 2] rfl rfl rfl rfl hl.1 rfl (Nat.le_of_ble_eq_true rfl) dX5_knowsOf_39 ⟨Nat.zero_le _, Nat.zero_le _⟩ ?_
          refine W.eq (g2 := F0 m 42 ls [.int (lrn (K b)), .int ((kn P M tr (lrn (K b)) (tn (U b)) k) - ((kn P M tr (lrn (K b)) (tn (U b)) k) / (nI 3)))]) rfl ?_
          refine lv_goto (tgt := 46) hx hb dX5_knowsOf_42 (by decide) ?_
          refine lv_iadd hx hb dX5_knowsOf_46 ?_
          refine lv_istore (lv' := [(5, .int (((kn P M tr (lrn (K b)) (tn (U b)) k) - ((kn P M tr (lrn (K b)) (tn (U b)) k) / (nI 3))) + (lrn (K b)))), (6, .int (nI k)), (4, .int (nI (wh P M (tn (U b)) k))), (0, .ref o), (1, .int (nI b)), (2, .int (nI tr)), (3, .int (nI n))]) hx hb dX5_knowsOf_47 hl (by decide) rfl (fun ls hl => ?_)
          refine lv_aload_n hx hb dX5_knowsOf_49 rfl (lv_at hl 3 rfl) ?_
          refine lv_iload hx hb dX5_knowsOf_50 (lv_at hl 2 rfl) ?_
          refine rdV (As := [.int (nI (wh P M (tn (U b)) k))]) (rest := []) (ci := 5) (q0 := 0) hE (kX5_nextOf l G o ff ftr aso asl ace M B ape aki abo at_ rM rB arp ark arb fb fto R awh awn awm awk amo amu P (wh P M (tn (U b)) k) hM hwk) (cwV 1 hts gX5_knowsOf_X5_nextOf rfl rfl rfl (by decide +kernel) ⟨Nat.le_of_ble_eq_true rfl, Nat.le_of_ble_eq_true rfl⟩) hP hK [0, 1] rfl rfl rfl rfl hl.1 rfl (Nat.le_of_ble_eq_true rfl) dX5_knowsOf_52 ⟨Nat.zero_le _, Nat.zero_le _⟩ ?_
          refine W.eq (g2 := F0 m 55 ls [.int (nI (nxt P M (wh P M (tn (U b)) k)))]) rfl ?_
          refine lv_istore (lv' := [(4, .int (nI (nxt P M (wh P M (tn (U b)) k)))), (5, .int (((kn P M tr (lrn (K b)) (tn (U b)) k) - ((kn P M tr (lrn (K b)) (tn (U b)) k) / (nI 3))) + (lrn (K b)))), (6, .int (nI k)), (0, .ref o), (1, .int (nI b)), (2, .int (nI tr)), (3, .int (nI n))]) hx hb dX5_knowsOf_55 hl (by decide) rfl (fun ls hl => ?_)
          refine lv_iinc (v := nI (k + 1)) (lv' := [(6, .int (nI (k + 1))), (4, .int (nI (nxt P M (wh P M (tn (U b)) k)))), (5, .int (((kn P M tr (lrn (K b)) (tn (U b)) k) - ((kn P M tr (lrn (K b)) (tn (U b)) k) / (nI 3))) + (lrn (K b)))), (0, .ref o), (1, .int (nI b)), (2, .int (nI tr)), (3, .int (nI n))]) hx hb dX5_knowsOf_57 hl (k := 2) rfl (show nI k + Int32.ofInt 1 = nI (k + 1) from nI_add _ 1) (by decide) rfl (fun ls hl => ?_)
          refine lv_goto (tgt := 14) hx hb dX5_knowsOf_60 (by decide) ?_
          have hl4 : lv_has ls 7 [(6, .int (nI (k + 1))), (5, .int (kn P M tr (lrn (K b)) (tn (U b)) (k + 1))), (4, .int (nI (wh P M (tn (U b)) (k + 1)))), (0, .ref o), (1, .int (nI b)), (2, .int (nI tr)), (3, .int (nI n))] := by
            rw [show (kn P M tr (lrn (K b)) (tn (U b)) (k + 1)) = (((kn P M tr (lrn (K b)) (tn (U b)) k) - ((kn P M tr (lrn (K b)) (tn (U b)) k) / (nI 3))) + (lrn (K b))) from by first | rfl | simp only [kn, wh, add0, iF_t c1, iF_t c2]]
            rw [show (nI (wh P M (tn (U b)) (k + 1))) = (nI (nxt P M (wh P M (tn (U b)) k))) from by first | rfl | simp only [kn, wh, add0, iF_t c1, iF_t c2]]
            exact (lv_sub hl [0, 2, 1, 3, 4, 5, 6] rfl)
          exact ih1 (k + 1) ls (by omega) (by omega) hl4
  have hl5 : lv_has ls 7 [(6, .int (nI 0)), (5, .int (kn P M tr (lrn (K b)) (tn (U b)) 0)), (4, .int (nI (wh P M (tn (U b)) 0))), (0, .ref o), (1, .int (nI b)), (2, .int (nI tr)), (3, .int (nI n))] := by
    rw [show (kn P M tr (lrn (K b)) (tn (U b)) 0) = (nI 0) from by first | rfl | simp only [kn, wh, add0]]
    rw [show (nI (wh P M (tn (U b)) 0)) = (nI (tn (U b))) from by first | rfl | simp only [kn, wh, add0]]
    exact (lv_sub hl [0, 1, 2, 3, 4, 5, 6] rfl)
  exact loop1 (n + 1) 0 ls (by omega) (by omega) hl5
