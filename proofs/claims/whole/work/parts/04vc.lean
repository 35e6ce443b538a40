set_option maxHeartbeats 4000000 in
set_option maxRecDepth 100000 in
theorem kX5_where (l : Launch) (G : Gl) (o : Nat) (ff : Int32) (ftr : Int32) (aso : Nat) (asl : Nat) (ace : Nat) (M : Nat) (B : Nat) (ape : Nat) (aki : Nat) (abo : Nat) (at_ : Int32) (rM : Int32) (rB : Int32) (arp : Nat) (ark : Nat) (arb : Nat) (fb : Int32) (fto : Int32) (R : Nat) (awh : Nat) (awn : Nat) (awm : Nat) (awk : Nat) (amo : Nat) (amu : Nat) (P : Nat → Int32) (U : Nat → Int32) (b : Int32) (n : Int32) (hM : M ≤ 5) (hB : B ≤ 4) (hU : ∀ b, b < B → vp_in (U b) M) : Rd l G yX5_where wsX5_where ({ frames := 3, cells := 0, slots := 0, locals := 68 } : Room) [.ref o, .int b, .int n] [(o, .inr (5, [.int ff, .int ftr, .ref aso, .ref asl, .ref ace, .int (nI M), .int (nI B), .ref ape, .ref aki, .ref abo, .int at_, .int rM, .int rB, .ref arp, .ref ark, .ref arb, .int fb, .int fto, .int (nI R), .ref awh, .ref awn, .ref awm, .ref awk, .ref amo, .ref amu])), (ape, aI G 25 P), (abo, aI G 4 U)] (some (.int (s_where B M P U b n))) := by
  refine Rd.ofI (cc := cX5_where) (maxL := 3) (by decide) rfl (Nat.le_of_ble_eq_true rfl) ?_
  intro p e s m below meth c Q ls hE hP hK hl hret
  obtain ⟨hx, hb, hml, hown, hts⟩ := id hE
  have hl : lv_has ls 3 [(0, .ref o), (1, .int b), (2, .int n)] := hl
  refine lv_aload_n hx hb dX5_where_0 rfl (lv_at hl 0 rfl) ?_
  refine lv_iload_n hx hb dX5_where_1 rfl (lv_at hl 1 rfl) ?_
  refine rdV (As := [.int b]) (rest := []) (ci := 5) (q0 := 0) hE (kX5_isBoy l G o ff ftr aso asl ace M B ape aki abo at_ rM rB arp ark arb fb fto R awh awn awm awk amo amu b hB) (cwV 1 hts gX5_where_X5_isBoy rfl rfl rfl (by decide +kernel) ⟨Nat.le_of_ble_eq_true rfl, Nat.le_of_ble_eq_true rfl⟩) hP hK [0] rfl rfl rfl rfl hl.1 rfl (Nat.le_of_ble_eq_true rfl) dX5_where_2 ⟨Nat.zero_le _, Nat.zero_le _⟩ ?_
  refine W.eq (g2 := F0 m 5 ls [.int (bI (vp_in b B))]) rfl ?_
  refine bz_ne (tgt := 10) hx hb dX5_where_5 (by decide) (fun c1 => ?_) (fun c1 => ?_)
  ·
    obtain ⟨jb, hjb, rfl⟩ := vp_in_of c1 (by omega)
    refine lv_iload_n hx hb dX5_where_10 rfl (lv_at hl 2 rfl) ?_
    refine lv_iconst (v := nI 0) hx hb dX5_where_11 (by decide) ?_
    refine lv_bipush (v := nI 60) hx hb dX5_where_12 (by decide) ?_
    refine rdS (As := [.int n, .int (nI 0), .int (nI 60)]) (rest := []) hE (kX5_within0 l G n 60 (by first | omega | assumption | exact hU _ (by omega) | exact hz _ (by omega) | exact hK3 _ (by omega))) (va_cwS 3 hts gX5_where_X5_within rfl rfl rfl (by decide +kernel) ⟨Nat.le_of_ble_eq_true rfl, Nat.le_of_ble_eq_true rfl⟩) hP hK [] rfl rfl hl.1 rfl (Nat.le_of_ble_eq_true rfl) dX5_where_14 ⟨Nat.zero_le _, Nat.zero_le _⟩ ?_
    refine W.eq (g2 := F0 m 17 ls [.int (bI (vp_in n (60 + 1)))]) rfl ?_
    refine bz_eq (tgt := 29) hx hb dX5_where_17 (by decide) (fun c2 => ?_) (fun c2 => ?_)
    ·
      refine lv_bipush (v := (-2)) hx hb dX5_where_29 (by decide) ?_
      exact hret _ _ _ (by first | with_reducible rfl | (simp only [s_where, iF_t c1, iF_f c2, tn_nI (show jb < 2 ^ 31 by omega)]; done) | contradiction) dX5_where_31
    ·
      obtain ⟨jn, hjn, rfl⟩ := vp_in_of c2 (by omega)
      refine lv_aload_n hx hb dX5_where_20 rfl (lv_at hl 0 rfl) ?_
      refine lv_iload_n hx hb dX5_where_21 rfl (lv_at hl 1 rfl) ?_
      refine lv_iload_n hx hb dX5_where_22 rfl (lv_at hl 2 rfl) ?_
      refine rdV (As := [.int (nI jb), .int (nI jn)]) (rest := []) (ci := 5) (q0 := 0) hE (kX5_whereOf l G o ff ftr aso asl ace M B ape aki abo at_ rM rB arp ark arb fb fto R awh awn awm awk amo amu P U jb jn hM (by first | omega | assumption | exact hU _ (by omega) | exact hz _ (by omega) | exact hK3 _ (by omega)) (by first | omega | assumption | exact hU _ (by omega) | exact hz _ (by omega) | exact hK3 _ (by omega)) (by first | omega | assumption | exact hU _ (by omega) | exact hz _ (by omega) | exact hK3 _ (by omega))) (cwV 2 hts gX5_where_X5_whereOf rfl rfl rfl (by decide +kernel) ⟨Nat.le_of_ble_eq_true rfl, Nat.le_of_ble_eq_true rfl⟩) hP hK [0, 1, 2] rfl rfl rfl rfl hl.1 rfl (Nat.le_of_ble_eq_true rfl) dX5_where_23 ⟨Nat.zero_le _, Nat.zero_le _⟩ ?_
      refine W.eq (g2 := F0 m 26 ls [.int (nI (wh P M (tn (U jb)) jn))]) rfl ?_
      refine lv_goto (tgt := 31) hx hb dX5_where_26 (by decide) ?_
      exact hret _ _ _ (by first | with_reducible rfl | (simp only [s_where, iF_t c1, iF_t c2, tn_nI (show jb < 2 ^ 31 by omega), tn_nI (show jn < 2 ^ 31 by omega)]; done) | contradiction) dX5_where_31
  ·
    refine lv_iconst (v := (-1)) hx hb dX5_where_8 (by decide) ?_
    exact hret _ _ _ (by first | with_reducible rfl | (simp only [s_where, iF_f c1]; done) | contradiction) dX5_where_9

set_option maxHeartbeats 4000000 in
set_option maxRecDepth 100000 in
theorem kX5_knows (l : Launch) (G : Gl) (o : Nat) (ff : Int32) (ftr : Int32) (aso : Nat) (asl : Nat) (ace : Nat) (M : Nat) (B : Nat) (ape : Nat) (aki : Nat) (abo : Nat) (at_ : Int32) (rM : Int32) (rB : Int32) (arp : Nat) (ark : Nat) (arb : Nat) (fb : Int32) (fto : Int32) (R : Nat) (awh : Nat) (awn : Nat) (awm : Nat) (awk : Nat) (amo : Nat) (amu : Nat) (P : Nat → Int32) (K : Nat → Int32) (U : Nat → Int32) (b : Int32) (m0 : Int32) (n : Int32) (hM : M ≤ 5) (hB : B ≤ 4) (hU : ∀ b, b < B → vp_in (U b) M) (hK3 : ∀ b, b < B → kd (K b)) : Rd l G yX5_knows wsX5_knows ({ frames := 3, cells := 0, slots := 0, locals := 70 } : Room) [.ref o, .int b, .int m0, .int n] [(o, .inr (5, [.int ff, .int ftr, .ref aso, .ref asl, .ref ace, .int (nI M), .int (nI B), .ref ape, .ref aki, .ref abo, .int at_, .int rM, .int rB, .ref arp, .ref ark, .ref arb, .int fb, .int fto, .int (nI R), .ref awh, .ref awn, .ref awm, .ref awk, .ref amo, .ref amu])), (ape, aI G 25 P), (aki, aI G 4 K), (abo, aI G 4 U)] (some (.int (s_knows B M P K U b m0 n))) := by
  refine Rd.ofI (cc := cX5_knows) (maxL := 4) (by decide) rfl (Nat.le_of_ble_eq_true rfl) ?_
  intro p e s m below meth c Q ls hE hP hK hl hret
  obtain ⟨hx, hb, hml, hown, hts⟩ := id hE
  have hl : lv_has ls 4 [(0, .ref o), (1, .int b), (2, .int m0), (3, .int n)] := hl
  refine lv_aload_n hx hb dX5_knows_0 rfl (lv_at hl 0 rfl) ?_
  refine lv_iload_n hx hb dX5_knows_1 rfl (lv_at hl 1 rfl) ?_
  refine rdV (As := [.int b]) (rest := []) (ci := 5) (q0 := 0) hE (kX5_isBoy l G o ff ftr aso asl ace M B ape aki abo at_ rM rB arp ark arb fb fto R awh awn awm awk amo amu b hB) (cwV 1 hts gX5_knows_X5_isBoy rfl rfl rfl (by decide +kernel) ⟨Nat.le_of_ble_eq_true rfl, Nat.le_of_ble_eq_true rfl⟩) hP hK [0] rfl rfl rfl rfl hl.1 rfl (Nat.le_of_ble_eq_true rfl) dX5_knows_2 ⟨Nat.zero_le _, Nat.zero_le _⟩ ?_
  refine W.eq (g2 := F0 m 5 ls [.int (bI (vp_in b B))]) rfl ?_
  refine bz_eq (tgt := 16) hx hb dX5_knows_5 (by decide) (fun c1 => ?_) (fun c1 => ?_)
  ·
    refine lv_iconst (v := (-1)) hx hb dX5_knows_16 (by decide) ?_
    exact hret _ _ _ (by first | with_reducible rfl | (simp only [s_knows, iF_f c1]; done) | contradiction) dX5_knows_17
  ·
    obtain ⟨jb, hjb, rfl⟩ := vp_in_of c1 (by omega)
    refine lv_aload_n hx hb dX5_knows_8 rfl (lv_at hl 0 rfl) ?_
    refine lv_iload_n hx hb dX5_knows_9 rfl (lv_at hl 2 rfl) ?_
    refine rdV (As := [.int m0]) (rest := []) (ci := 5) (q0 := 0) hE (kX5_isMaster l G o ff ftr aso asl ace M B ape aki abo at_ rM rB arp ark arb fb fto R awh awn awm awk amo amu m0 hM) (cwV 1 hts gX5_knows_X5_isMaster rfl rfl rfl (by decide +kernel) ⟨Nat.le_of_ble_eq_true rfl, Nat.le_of_ble_eq_true rfl⟩) hP hK [0] rfl rfl rfl rfl hl.1 rfl (Nat.le_of_ble_eq_true rfl) dX5_knows_10 ⟨Nat.zero_le _, Nat.zero_le _⟩ ?_
    refine W.eq (g2 := F0 m 13 ls [.int (bI (vp_in m0 M))]) rfl ?_
    refine bz_ne (tgt := 18) hx hb dX5_knows_13 (by decide) (fun c2 => ?_) (fun c2 => ?_)
    ·
      obtain ⟨jm0, hjm0, rfl⟩ := vp_in_of c2 (by omega)
      refine lv_iload_n hx hb dX5_knows_18 rfl (lv_at hl 3 rfl) ?_
      refine lv_iconst (v := nI 0) hx hb dX5_knows_19 (by decide) ?_
      refine lv_bipush (v := nI 60) hx hb dX5_knows_20 (by decide) ?_
      refine rdS (As := [.int n, .int (nI 0), .int (nI 60)]) (rest := []) hE (kX5_within0 l G n 60 (by first | omega | assumption | exact hU _ (by omega) | exact hz _ (by omega) | exact hK3 _ (by omega))) (va_cwS 3 hts gX5_knows_X5_within rfl rfl rfl (by decide +kernel) ⟨Nat.le_of_ble_eq_true rfl, Nat.le_of_ble_eq_true rfl⟩) hP hK [] rfl rfl hl.1 rfl (Nat.le_of_ble_eq_true rfl) dX5_knows_22 ⟨Nat.zero_le _, Nat.zero_le _⟩ ?_
      refine W.eq (g2 := F0 m 25 ls [.int (bI (vp_in n (60 + 1)))]) rfl ?_
      refine bz_eq (tgt := 38) hx hb dX5_knows_25 (by decide) (fun c3 => ?_) (fun c3 => ?_)
      ·
        refine lv_bipush (v := (-2)) hx hb dX5_knows_38 (by decide) ?_
        exact hret _ _ _ (by first | with_reducible rfl | (simp only [s_knows, iF_t c1, iF_t c2, iF_f c3, tn_nI (show jb < 2 ^ 31 by omega), tn_nI (show jm0 < 2 ^ 31 by omega)]; done) | contradiction) dX5_knows_40
      ·
        obtain ⟨jn, hjn, rfl⟩ := vp_in_of c3 (by omega)
        refine lv_aload_n hx hb dX5_knows_28 rfl (lv_at hl 0 rfl) ?_
        refine lv_iload_n hx hb dX5_knows_29 rfl (lv_at hl 1 rfl) ?_
        refine lv_iload_n hx hb dX5_knows_30 rfl (lv_at hl 2 rfl) ?_
        refine lv_iload_n hx hb dX5_knows_31 rfl (lv_at hl 3 rfl) ?_
        refine rdV (As := [.int (nI jb), .int (nI jm0), .int (nI jn)]) (rest := []) (ci := 5) (q0 := 0) hE (kX5_knowsOf l G o ff ftr aso asl ace M B ape aki abo at_ rM rB arp ark arb fb fto R awh awn awm awk amo amu P K U jb jm0 jn hM (by first | omega | assumption | exact hU _ (by omega) | exact hz _ (by omega) | exact hK3 _ (by omega)) (by first | omega | assumption | exact hU _ (by omega) | exact hz _ (by omega) | exact hK3 _ (by omega)) (by first | omega | assumption | exact hU _ (by omega) | exact hz _ (by omega) | exact hK3 _ (by omega)) hjm0 (by first | omega | assumption | exact hU _ (by omega) | exact hz _ (by omega) | exact hK3 _ (by omega))) (cwV 3 hts gX5_knows_X5_knowsOf rfl rfl rfl (by decide +kernel) ⟨Nat.le_of_ble_eq_true rfl, Nat.le_of_ble_eq_true rfl⟩) hP hK [0, 1, 2, 3] rfl rfl rfl rfl hl.1 rfl (Nat.le_of_ble_eq_true rfl) dX5_knows_32 ⟨Nat.zero_le _, Nat.zero_le _⟩ ?_
        refine W.eq (g2 := F0 m 35 ls [.int (kn P M jm0 (lrn (K jb)) (tn (U jb)) jn)]) rfl ?_
        refine lv_goto (tgt := 40) hx hb dX5_knows_35 (by decide) ?_
        exact hret _ _ _ (by first | with_reducible rfl | (simp only [s_knows, iF_t c1, iF_t c2, iF_t c3, tn_nI (show jb < 2 ^ 31 by omega), tn_nI (show jm0 < 2 ^ 31 by omega), tn_nI (show jn < 2 ^ 31 by omega)]; done) | contradiction) dX5_knows_40
    ·
      refine lv_iconst (v := (-1)) hx hb dX5_knows_16 (by decide) ?_
      exact hret _ _ _ (by first | with_reducible rfl | (simp only [s_knows, iF_t c1, iF_f c2, tn_nI (show jb < 2 ^ 31 by omega)]; done) | contradiction) dX5_knows_17

theorem ixX5_able_X5 : ∀ w ∈ wsX50, w ∈ wsX5_able := fun _ h => List.mem_cons_of_mem _ (List.mem_append_right _ h)
theorem lkX5_able_65 : Cond.fieldLink RX5 65 (TX5 5).1 (TX5 5).2.1 (TX5 5).2.2.1 ∈ wsX5_able := List.mem_of_getElem? (i := 1) rfl
theorem lkX5_able_68 : Cond.fieldLink RX5 68 (TX5 6).1 (TX5 6).2.1 (TX5 6).2.2.1 ∈ wsX5_able := List.mem_of_getElem? (i := 2) rfl
set_option maxHeartbeats 4000000 in
set_option maxRecDepth 100000 in
theorem kX5_able (l : Launch) (G : Gl) (o : Nat) (ff : Int32) (ftr : Int32) (aso : Nat) (asl : Nat) (ace : Nat) (M : Nat) (B : Nat) (ape : Nat) (aki : Nat) (abo : Nat) (at_ : Int32) (rM : Int32) (rB : Int32) (arp : Nat) (ark : Nat) (arb : Nat) (fb : Int32) (fto : Int32) (R : Nat) (awh : Nat) (awn : Nat) (awm : Nat) (awk : Nat) (amo : Nat) (amu : Nat) (P : Nat → Int32) (K : Nat → Int32) (U : Nat → Int32) (n : Int32) (hM : M ≤ 5) (hB : B ≤ 4) (hU : ∀ b, b < B → vp_in (U b) M) (hK3 : ∀ b, b < B → kd (K b)) : Rd l G yX5_able wsX5_able ({ frames := 3, cells := 0, slots := 0, locals := 70 } : Room) [.ref o, .int n] [(o, .inr (5, [.int ff, .int ftr, .ref aso, .ref asl, .ref ace, .int (nI M), .int (nI B), .ref ape, .ref aki, .ref abo, .int at_, .int rM, .int rB, .ref arp, .ref ark, .ref arb, .int fb, .int fto, .int (nI R), .ref awh, .ref awn, .ref awm, .ref awk, .ref amo, .ref amu])), (ape, aI G 25 P), (aki, aI G 4 K), (abo, aI G 4 U)] (some (.int (s_able B M P K U n))) := by
  refine Rd.ofI (cc := cX5_able) (maxL := 5) (by decide) rfl (Nat.le_of_ble_eq_true rfl) ?_
  intro p e s m below meth c Q ls hE hP hK hl hret
  obtain ⟨hx, hb, hml, hown, hts⟩ := id hE
  have hl : lv_has ls 5 [(0, .ref o), (1, .int n)] := hl
  refine lv_iload_n hx hb dX5_able_0 rfl (lv_at hl 1 rfl) ?_
  refine lv_iconst (v := nI 0) hx hb dX5_able_1 (by decide) ?_
  refine lv_bipush (v := nI 60) hx hb dX5_able_2 (by decide) ?_
  refine rdS (As := [.int n, .int (nI 0), .int (nI 60)]) (rest := []) hE (kX5_within0 l G n 60 (by first | omega | assumption | exact hU _ (by omega) | exact hz _ (by omega) | exact hK3 _ (by omega))) (va_cwS 3 hts gX5_able_X5_within rfl rfl rfl (by decide +kernel) ⟨Nat.le_of_ble_eq_true rfl, Nat.le_of_ble_eq_true rfl⟩) hP hK [] rfl rfl hl.1 rfl (Nat.le_of_ble_eq_true rfl) dX5_able_4 ⟨Nat.zero_le _, Nat.zero_le _⟩ ?_
  refine W.eq (g2 := F0 m 7 ls [.int (bI (vp_in n (60 + 1)))]) rfl ?_
  refine bz_ne (tgt := 13) hx hb dX5_able_7 (by decide) (fun c1 => ?_) (fun c1 => ?_)
  ·
    obtain ⟨jn, hjn, rfl⟩ := vp_in_of c1 (by omega)
    refine lv_aload_n hx hb dX5_able_13 rfl (lv_at hl 0 rfl) ?_
    refine g_get (v := .int (nI M)) hx hb hts ixX5_able_X5 hown hK hP 0 rfl rfl 5 (by decide) lkX5_able_65 rfl dX5_able_14 ?_
    refine iz_ne (tgt := 23) hx hb (by omega) dX5_able_17 (by decide) (fun c2 => ?_) (fun c2 => ?_)
    ·
      refine lv_iconst (v := nI 0) hx hb dX5_able_23 (by decide) ?_
      refine lv_istore_n (lv' := [(2, .int (nI 0)), (0, .ref o), (1, .int (nI jn))]) hx hb dX5_able_24 rfl hl (by decide) rfl (fun ls hl => ?_)
      refine lv_iconst (v := nI 0) hx hb dX5_able_25 (by decide) ?_
      refine lv_istore_n (lv' := [(3, .int (nI 0)), (2, .int (nI 0)), (0, .ref o), (1, .int (nI jn))]) hx hb dX5_able_26 rfl hl (by decide) rfl (fun ls hl => ?_)
      have loop1 : ∀ (d k : Nat) (ls : Array Slot), B < k + d → k ≤ B → lv_has ls 5 [(3, .int (nI k)), (2, .int (ab P M K U jn k)), (0, .ref o), (1, .int (nI jn))] → W p l e ({ frames := 3, cells := 0, slots := 0, locals := 70 } : Room) s m ([.ref o, .int (nI jn)] : List Value).toArray below meth c s.heap [] 0 0 Q (F0 m 27 ls []) := by
        intro d
        induction d with
        | zero =>
          intro k ls h1 h2
          omega
        | succ d ih1 =>
          intro k ls hdk hbk hl
          refine lv_iload_n hx hb dX5_able_27 rfl (lv_at hl 0 rfl) ?_
          refine lv_aload_n hx hb dX5_able_28 rfl (lv_at hl 2 rfl) ?_
          refine g_get (v := .int (nI B)) hx hb hts ixX5_able_X5 hown hK hP 0 rfl rfl 6 (by decide) lkX5_able_68 rfl dX5_able_29 ?_
          refine ic_ge (tgt := 73) hx hb (by omega) (by omega) dX5_able_32 (by decide) (fun c3 => ?_) (fun c3 => ?_)
          ·
            obtain rfl : B = k := by omega
            refine lv_iload_n hx hb dX5_able_73 rfl (lv_at hl 1 rfl) ?_
            exact hret _ _ _ (by first | with_reducible rfl | (simp only [s_able, iF_t c1, iF_f c2, iF_f (Nat.not_lt.mpr c3), tn_nI (show jn < 2 ^ 31 by omega)]; done) | contradiction) dX5_able_74
          ·
            refine lv_aload_n hx hb dX5_able_35 rfl (lv_at hl 2 rfl) ?_
            refine lv_iload_n hx hb dX5_able_36 rfl (lv_at hl 0 rfl) ?_
            refine lv_iload_n hx hb dX5_able_37 rfl (lv_at hl 3 rfl) ?_
            refine rdV (As := [.int (nI k), .int (nI jn)]) (rest := []) (ci := 5) (q0 := 0) hE (kX5_whereOf l G o ff ftr aso asl ace M B ape aki abo at_ rM rB arp ark arb fb fto R awh awn awm awk amo amu P U k jn hM (by first | omega | assumption | exact hU _ (by omega) | exact hz _ (by omega) | exact hK3 _ (by omega)) (by first | omega | assumption | exact hU _ (by omega) | exact hz _ (by omega) | exact hK3 _ (by omega)) (by first | omega | assumption | exact hU _ (by omega) | exact hz _ (by omega) | exact hK3 _ (by omega))) (cwV 2 hts gX5_able_X5_whereOf rfl rfl rfl (by decide +kernel) ⟨Nat.le_of_ble_eq_true rfl, Nat.le_of_ble_eq_true rfl⟩) hP hK [0, 1, 3] rfl rfl rfl rfl hl.1 rfl (Nat.le_of_ble_eq_true rfl) dX5_able_38 ⟨Nat.zero_le _, Nat.zero_le _⟩ ?_
            refine W.eq (g2 := F0 m 41 ls [.int (nI (wh P M (tn (U k)) jn))]) rfl ?_
            refine lv_istore (lv' := [(4, .int (nI (wh P M (tn (U k)) jn))), (3, .int (nI k)), (2, .int (ab P M K U jn k)), (0, .ref o), (1, .int (nI jn))]) hx hb dX5_able_41 hl (by decide) rfl (fun ls hl => ?_)
            have hwl := wh_lt (P := P) (tn_lt (hU k (by omega)) (by omega)) jn
            refine lv_iload_n hx hb dX5_able_43 rfl (lv_at hl 2 rfl) ?_
            refine lv_aload_n hx hb dX5_able_44 rfl (lv_at hl 3 rfl) ?_
            refine lv_iload_n hx hb dX5_able_45 rfl (lv_at hl 1 rfl) ?_
            refine lv_iload hx hb dX5_able_46 (lv_at hl 0 rfl) ?_
            refine lv_iload_n hx hb dX5_able_48 rfl (lv_at hl 4 rfl) ?_
            refine rdV (As := [.int (nI k), .int (nI (wh P M (tn (U k)) jn)), .int (nI jn)]) (rest := [.int (ab P M K U jn k)]) (ci := 5) (q0 := 0) hE (kX5_knowsOf l G o ff ftr aso asl ace M B ape aki abo at_ rM rB arp ark arb fb fto R awh awn awm awk amo amu P K U k (wh P M (tn (U k)) jn) jn hM (by first | omega | assumption | exact hU _ (by omega) | exact hz _ (by omega) | exact hK3 _ (by omega)) (by first | omega | assumption | exact hU _ (by omega) | exact hz _ (by omega) | exact hK3 _ (by omega)) (by first | omega | assumption | exact hU _ (by omega) | exact hz _ (by omega) | exact hK3 _ (by omega)) (by first | omega | assumption | exact hU _ (by omega) | exact hz _ (by omega) | exact hK3 _ (by omega)) (by first | omega | assumption | exact hU _ (by omega) | exact hz _ (by omega) | exact hK3 _ (by omega))) (cwV 3 hts gX5_able_X5_knowsOf rfl rfl rfl (by decide +kernel) ⟨Nat.le_of_ble_eq_true rfl, Nat.le_of_ble_eq_true rfl⟩) hP hK [0, 1, 2, 3] rfl rfl rfl rfl hl.1 rfl (Nat.le_of_ble_eq_true rfl) dX5_able_49 ⟨Nat.zero_le _, Nat.zero_le _⟩ ?_
            refine W.eq (g2 := F0 m 52 ls [.int (kn P M (wh P M (tn (U k)) jn) (lrn (K k)) (tn (U k)) jn), .int (ab P M K U jn k)]) rfl ?_
            refine lv_bipush (v := nI 9) hx hb dX5_able_52 (by decide) ?_
            refine lv_icmp_lt (tgt := 64) hx hb dX5_able_54 (by decide) (fun c4 => ?_) (fun c4 => ?_)
            ·
              refine lv_iconst (v := nI 0) hx hb dX5_able_64 (by decide) ?_
              refine lv_ior hx hb dX5_able_65 ?_
              refine lv_istore_n (lv' := [(2, .int ((ab P M K U jn k) ||| (nI 0))), (4, .int (nI (wh P M (tn (U k)) jn))), (3, .int (nI k)), (0, .ref o), (1, .int (nI jn))]) hx hb dX5_able_66 rfl hl (by decide) rfl (fun ls hl => ?_)
              refine lv_iinc (v := nI (k + 1)) (lv' := [(3, .int (nI (k + 1))), (2, .int ((ab P M K U jn k) ||| (nI 0))), (4, .int (nI (wh P M (tn (U k)) jn))), (0, .ref o), (1, .int (nI jn))]) hx hb dX5_able_67 hl (k := 2) rfl (show nI k + Int32.ofInt 1 = nI (k + 1) from nI_add _ 1) (by decide) rfl (fun ls hl => ?_)
              refine lv_goto (tgt := 27) hx hb dX5_able_70 (by decide) ?_
              have hl5 : lv_has ls 5 [(3, .int (nI (k + 1))), (2, .int (ab P M K U jn (k + 1))), (0, .ref o), (1, .int (nI jn))] := by
                rw [show (ab P M K U jn (k + 1)) = ((ab P M K U jn k) ||| (nI 0)) from by first | rfl | simp only [ab, or0, iF_t c1, iF_f c2, iF_t c3, iF_t c4, iF_f (i32_lt c4), tn_nI (show jn < 2 ^ 31 by omega)]]
                exact (lv_sub hl [0, 1, 3, 4] rfl)
              exact ih1 (k + 1) ls (by omega) (by omega) hl5
            ·
              refine lv_iconst (v := nI 1) hx hb dX5_able_57 (by decide) ?_
              refine lv_iload hx hb dX5_able_58 (lv_at hl 0 rfl) ?_
              refine lv_ishl hx hb dX5_able_60 ?_
              refine lv_goto (tgt := 65) hx hb dX5_able_61 (by decide) ?_
              refine lv_ior hx hb dX5_able_65 ?_
              refine lv_istore_n (lv' := [(2, .int ((ab P M K U jn k) ||| ((nI 1) <<< (nI (wh P M (tn (U k)) jn) &&& 31)))), (4, .int (nI (wh P M (tn (U k)) jn))), (3, .int (nI k)), (0, .ref o), (1, .int (nI jn))]) hx hb dX5_able_66 rfl hl (by decide) rfl (fun ls hl => ?_)
              refine lv_iinc (v := nI (k + 1)) (lv' := [(3, .int (nI (k + 1))), (2, .int ((ab P M K U jn k) ||| ((nI 1) <<< (nI (wh P M (tn (U k)) jn) &&& 31)))), (4, .int (nI (wh P M (tn (U k)) jn))), (0, .ref o), (1, .int (nI jn))]) hx hb dX5_able_67 hl (k := 2) rfl (show nI k + Int32.ofInt 1 = nI (k + 1) from nI_add _ 1) (by decide) rfl (fun ls hl => ?_)
              refine lv_goto (tgt := 27) hx hb dX5_able_70 (by decide) ?_
              have hl6 : lv_has ls 5 [(3, .int (nI (k + 1))), (2, .int (ab P M K U jn (k + 1))), (0, .ref o), (1, .int (nI jn))] := by
                rw [show (ab P M K U jn (k + 1)) = ((ab P M K U jn k) ||| ((nI 1) <<< (nI (wh P M (tn (U k)) jn) &&& 31))) from by first | rfl | simp only [ab, or0, iF_t c1, iF_f c2, iF_t c3, iF_f c4, iF_t (i32_nlt c4), tn_nI (show jn < 2 ^ 31 by omega)]]
                exact (lv_sub hl [0, 1, 3, 4] rfl)
              exact ih1 (k + 1) ls (by omega) (by omega) hl6
      have hl7 : lv_has ls 5 [(3, .int (nI 0)), (2, .int (ab P M K U jn 0)), (0, .ref o), (1, .int (nI jn))] := by
        rw [show (ab P M K U jn 0) = (nI 0) from by first | rfl | simp only [ab, or0, iF_t c1, iF_f c2, tn_nI (show jn < 2 ^ 31 by omega)]]
        exact (lv_sub hl [0, 1, 2, 3] rfl)
      exact loop1 (B + 1) 0 ls (by omega) (by omega) hl7
    ·
      refine lv_bipush (v := (-3)) hx hb dX5_able_20 (by decide) ?_
      exact hret _ _ _ (by first | with_reducible rfl | (simp only [s_able, iF_t c1, iF_t c2, tn_nI (show jn < 2 ^ 31 by omega)]; done) | contradiction) dX5_able_22
  ·
    refine lv_bipush (v := (-2)) hx hb dX5_able_10 (by decide) ?_
    exact hret _ _ _ (by first | with_reducible rfl | (simp only [s_able, iF_f c1]; done) | contradiction) dX5_able_12

theorem ixX5_ring_X5 : ∀ w ∈ wsX50, w ∈ wsX5_ring := fun _ h => List.mem_cons_of_mem _ (List.mem_append_right _ h)
theorem lkX5_ring_65 : Cond.fieldLink RX5 65 (TX5 5).1 (TX5 5).2.1 (TX5 5).2.2.1 ∈ wsX5_ring := List.mem_of_getElem? (i := 1) rfl
set_option maxHeartbeats 4000000 in
set_option maxRecDepth 100000 in
theorem kX5_ring (l : Launch) (G : Gl) (o : Nat) (ff : Int32) (ftr : Int32) (aso : Nat) (asl : Nat) (ace : Nat) (M : Nat) (B : Nat) (ape : Nat) (aki : Nat) (abo : Nat) (at_ : Int32) (rM : Int32) (rB : Int32) (arp : Nat) (ark : Nat) (arb : Nat) (fb : Int32) (fto : Int32) (R : Nat) (awh : Nat) (awn : Nat) (awm : Nat) (awk : Nat) (amo : Nat) (amu : Nat) (P : Nat → Int32) (m0 : Int32) (hM : M ≤ 5) : Rd l G yX5_ring wsX5_ring ({ frames := 2, cells := 0, slots := 0, locals := 44 } : Room) [.ref o, .int m0] [(o, .inr (5, [.int ff, .int ftr, .ref aso, .ref asl, .ref ace, .int (nI M), .int (nI B), .ref ape, .ref aki, .ref abo, .int at_, .int rM, .int rB, .ref arp, .ref ark, .ref arb, .int fb, .int fto, .int (nI R), .ref awh, .ref awn, .ref awm, .ref awk, .ref amo, .ref amu])), (ape, aI G 25 P)] (some (.int (s_ring M P m0))) := by
  refine Rd.ofI (cc := cX5_ring) (maxL := 4) (by decide) rfl (Nat.le_of_ble_eq_true rfl) ?_
  intro p e s m below meth c Q ls hE hP hK hl hret
  obtain ⟨hx, hb, hml, hown, hts⟩ := id hE
  have hl : lv_has ls 4 [(0, .ref o), (1, .int m0)] := hl
  refine lv_aload_n hx hb dX5_ring_0 rfl (lv_at hl 0 rfl) ?_
  refine lv_iload_n hx hb dX5_ring_1 rfl (lv_at hl 1 rfl) ?_
  refine rdV (As := [.int m0]) (rest := []) (ci := 5) (q0 := 0) hE (kX5_isMaster l G o ff ftr aso asl ace M B ape aki abo at_ rM rB arp ark arb fb fto R awh awn awm awk amo amu m0 hM) (cwV 1 hts gX5_ring_X5_isMaster rfl rfl rfl (by decide +kernel) ⟨Nat.le_of_ble_eq_true rfl, Nat.le_of_ble_eq_true rfl⟩) hP hK [0] rfl rfl rfl rfl hl.1 rfl (Nat.le_of_ble_eq_true rfl) dX5_ring_2 ⟨Nat.zero_le _, Nat.zero_le _⟩ ?_
  refine W.eq (g2 := F0 m 5 ls [.int (bI (vp_in m0 M))]) rfl ?_
  refine bz_ne (tgt := 10) hx hb dX5_ring_5 (by decide) (fun c1 => ?_) (fun c1 => ?_)
  ·
    obtain ⟨jm0, hjm0, rfl⟩ := vp_in_of c1 (by omega)
    refine lv_iload_n hx hb dX5_ring_10 rfl (lv_at hl 1 rfl) ?_
    refine lv_istore_n (lv' := [(2, .int (nI jm0)), (0, .ref o), (1, .int (nI jm0))]) hx hb dX5_ring_11 rfl hl (by decide) rfl (fun ls hl => ?_)
    refine lv_iconst (v := nI 0) hx hb dX5_ring_12 (by decide) ?_
    refine lv_istore_n (lv' := [(3, .int (nI 0)), (2, .int (nI jm0)), (0, .ref o), (1, .int (nI jm0))]) hx hb dX5_ring_13 rfl hl (by decide) rfl (fun ls hl => ?_)
    have loop1 : ∀ (d k : Nat) (ls : Array Slot), M < k + d → k ≤ M → lv_has ls 4 [(3, .int (nI k)), (2, .int (nI (wh P M jm0 k))), (0, .ref o), (1, .int (nI jm0))] → W p l e ({ frames := 2, cells := 0, slots := 0, locals := 44 } : Room) s m ([.ref o, .int (nI jm0)] : List Value).toArray below meth c s.heap [] 0 0 Q (F0 m 14 ls []) := by
      intro d
      induction d with
      | zero =>
        intro k ls h1 h2
        omega
      | succ d ih1 =>
        intro k ls hdk hbk hl
        refine lv_iload_n hx hb dX5_ring_14 rfl (lv_at hl 0 rfl) ?_
        refine lv_aload_n hx hb dX5_ring_15 rfl (lv_at hl 2 rfl) ?_
        refine g_get (v := .int (nI M)) hx hb hts ixX5_ring_X5 hown hK hP 0 rfl rfl 5 (by decide) lkX5_ring_65 rfl dX5_ring_16 ?_
        refine ic_ge (tgt := 34) hx hb (by omega) (by omega) dX5_ring_19 (by decide) (fun c2 => ?_) (fun c2 => ?_)
        ·
          obtain rfl : M = k := by omega
          have hv0 := wh_lt (P := P) (show jm0 < M by omega) M
          refine lv_iconst (v := nI 0) hx hb dX5_ring_34 (by decide) ?_
          refine lv_istore_n (lv' := [(3, .int (nI 0)), (2, .int (nI (wh P M jm0 M))), (0, .ref o), (1, .int (nI jm0))]) hx hb dX5_ring_35 rfl hl (by decide) rfl (fun ls hl => ?_)
          have loop2 : ∀ (d j : Nat) (ls : Array Slot), M < j + d → j ≤ M → (∀ i, i < j → rgb P M (wh P M jm0 M) i = 0) → lv_has ls 4 [(3, .int (mt P M (wh P M jm0 M) j)), (2, .int (nI (wh P M (wh P M jm0 M) j))), (0, .ref o), (1, .int (nI jm0))] → W p l e ({ frames := 2, cells := 0, slots := 0, locals := 44 } : Room) s m ([.ref o, .int (nI jm0)] : List Value).toArray below meth c s.heap [] 0 0 Q (F0 m 36 ls []) := by
            intro d
            induction d with
            | zero =>
              intro j ls h1 h2
              omega
            | succ d ih2 =>
              intro j ls hdj hbj hr hl
              refine lv_iload_n hx hb dX5_ring_36 rfl (lv_at hl 0 rfl) ?_
              refine lv_iload_n hx hb dX5_ring_37 rfl (lv_at hl 1 rfl) ?_
              refine lv_ishr hx hb dX5_ring_38 ?_
              refine lv_iconst (v := nI 1) hx hb dX5_ring_39 (by decide) ?_
              refine lv_iand hx hb dX5_ring_40 ?_
              refine lv_if_ne (tgt := 59) hx hb dX5_ring_41 (by decide) (fun c3 => ?_) (fun c3 => ?_)
              ·
                refine lv_iload_n hx hb dX5_ring_59 rfl (lv_at hl 0 rfl) ?_
                exact hret _ _ _ (by simp only [s_ring, iF_t c1, tn_nI (show jm0 < 2 ^ 31 by omega)]; exact rg_end hM hv0 hbj hr c3) dX5_ring_60
              ·
                have hjM := rg_lt (P := P) hM hv0 hbj hr c3
                refine lv_iload_n hx hb dX5_ring_44 rfl (lv_at hl 0 rfl) ?_
                refine lv_iconst (v := nI 1) hx hb dX5_ring_45 (by decide) ?_
                refine lv_iload_n hx hb dX5_ring_46 rfl (lv_at hl 1 rfl) ?_
                refine lv_ishl hx hb dX5_ring_47 ?_
                refine lv_ior hx hb dX5_ring_48 ?_
                refine lv_istore_n (lv' := [(3, .int ((mt P M (wh P M jm0 M) j) ||| ((nI 1) <<< (nI (wh P M (wh P M jm0 M) j) &&& 31)))), (2, .int (nI (wh P M (wh P M jm0 M) j))), (0, .ref o), (1, .int (nI jm0))]) hx hb dX5_ring_49 rfl hl (by decide) rfl (fun ls hl => ?_)
                refine lv_aload_n hx hb dX5_ring_50 rfl (lv_at hl 2 rfl) ?_
                refine lv_iload_n hx hb dX5_ring_51 rfl (lv_at hl 1 rfl) ?_
                refine rdV (As := [.int (nI (wh P M (wh P M jm0 M) j))]) (rest := []) (ci := 5) (q0 := 0) hE (kX5_nextOf l G o ff ftr aso asl ace M B ape aki abo at_ rM rB arp ark arb fb fto R awh awn awm awk amo amu P (wh P M (wh P M jm0 M) j) hM (wh_lt hv0 j)) (cwV 1 hts gX5_ring_X5_nextOf rfl rfl rfl (by decide +kernel) ⟨Nat.le_of_ble_eq_true rfl, Nat.le_of_ble_eq_true rfl⟩) hP hK [0, 1] rfl rfl rfl rfl hl.1 rfl (Nat.le_of_ble_eq_true rfl) dX5_ring_52 ⟨Nat.zero_le _, Nat.zero_le _⟩ ?_
                refine W.eq (g2 := F0 m 55 ls [.int (nI (nxt P M (wh P M (wh P M jm0 M) j)))]) rfl ?_
                refine lv_istore_n (lv' := [(2, .int (nI (nxt P M (wh P M (wh P M jm0 M) j)))), (3, .int ((mt P M (wh P M jm0 M) j) ||| ((nI 1) <<< (nI (wh P M (wh P M jm0 M) j) &&& 31)))), (0, .ref o), (1, .int (nI jm0))]) hx hb dX5_ring_55 rfl hl (by decide) rfl (fun ls hl => ?_)
                refine lv_goto (tgt := 36) hx hb dX5_ring_56 (by decide) ?_
                have hl4 : lv_has ls 4 [(3, .int (mt P M (wh P M jm0 M) (j + 1))), (2, .int (nI (wh P M (wh P M jm0 M) (j + 1)))), (0, .ref o), (1, .int (nI jm0))] := by
                  rw [show (mt P M (wh P M jm0 M) (j + 1)) = ((mt P M (wh P M jm0 M) j) ||| ((nI 1) <<< (nI (wh P M (wh P M jm0 M) j) &&& 31))) from by first | rfl | simp only [wh, mt, iF_t c1, iF_f (Nat.not_lt.mpr c2), iF_t c3, tn_nI (show jm0 < 2 ^ 31 by omega)]]
                  rw [show (nI (wh P M (wh P M jm0 M) (j + 1))) = (nI (nxt P M (wh P M (wh P M jm0 M) j))) from by first | rfl | simp only [wh, mt, iF_t c1, iF_f (Nat.not_lt.mpr c2), iF_t c3, tn_nI (show jm0 < 2 ^ 31 by omega)]]
                  exact (lv_sub hl [1, 0, 2, 3] rfl)
                exact ih2 (j + 1) ls (by omega) (by omega) (fun i hi => (Nat.lt_or_ge i j).elim (fun q => hr i q) (fun q => (show i = j by omega) ▸ c3)) hl4
          have hl5 : lv_has ls 4 [(3, .int (mt P M (wh P M jm0 M) 0)), (2, .int (nI (wh P M (wh P M jm0 M) 0))), (0, .ref o), (1, .int (nI jm0))] := by
            rw [show (mt P M (wh P M jm0 M) 0) = (nI 0) from by first | rfl | simp only [wh, mt, iF_t c1, iF_f (Nat.not_lt.mpr c2), tn_nI (show jm0 < 2 ^ 31 by omega)]]
            rw [show (nI (wh P M (wh P M jm0 M) 0)) = (nI (wh P M jm0 M)) from by first | rfl | simp only [wh, mt, iF_t c1, iF_f (Nat.not_lt.mpr c2), tn_nI (show jm0 < 2 ^ 31 by omega)]]
            exact (lv_sub hl [0, 1, 2, 3] rfl)
          exact loop2 (M + 1) 0 ls (by omega) (by omega) (fun i h => absurd h (Nat.not_lt_zero i)) hl5
        ·
          refine lv_aload_n hx hb dX5_ring_22 rfl (lv_at hl 2 rfl) ?_
          refine lv_iload_n hx hb dX5_ring_23 rfl (lv_at hl 1 rfl) ?_
          refine rdV (As := [.int (nI (wh P M jm0 k))]) (rest := []) (ci := 5) (q0 := 0) hE (kX5_nextOf l G o ff ftr aso asl ace M B ape aki abo at_ rM rB arp ark arb fb fto R awh awn awm awk amo amu P (wh P M jm0 k) hM (wh_lt (show jm0 < M by omega) k)) (cwV 1 hts gX5_ring_X5_nextOf rfl rfl rfl (by decide +kernel) ⟨Nat.le_of_ble_eq_true rfl, Nat.le_of_ble_eq_true rfl⟩) hP hK [0, 1] rfl rfl rfl rfl hl.1 rfl (Nat.le_of_ble_eq_true rfl) dX5_ring_24 ⟨Nat.zero_le _, Nat.zero_le _⟩ ?_
          refine W.eq (g2 := F0 m 27 ls [.int (nI (nxt P M (wh P M jm0 k)))]) rfl ?_
          refine lv_istore_n (lv' := [(2, .int (nI (nxt P M (wh P M jm0 k)))), (3, .int (nI k)), (0, .ref o), (1, .int (nI jm0))]) hx hb dX5_ring_27 rfl hl (by decide) rfl (fun ls hl => ?_)
          refine lv_iinc (v := nI (k + 1)) (lv' := [(3, .int (nI (k + 1))), (2, .int (nI (nxt P M (wh P M jm0 k)))), (0, .ref o), (1, .int (nI jm0))]) hx hb dX5_ring_28 hl (k := 1) rfl (show nI k + Int32.ofInt 1 = nI (k + 1) from nI_add _ 1) (by decide) rfl (fun ls hl => ?_)
          refine lv_goto (tgt := 14) hx hb dX5_ring_31 (by decide) ?_
          have hl6 : lv_has ls 4 [(3, .int (nI (k + 1))), (2, .int (nI (wh P M jm0 (k + 1)))), (0, .ref o), (1, .int (nI jm0))] := by
            rw [show (nI (wh P M jm0 (k + 1))) = (nI (nxt P M (wh P M jm0 k))) from by first | rfl | simp only [wh, iF_t c1, iF_t c2, tn_nI (show jm0 < 2 ^ 31 by omega)]]
            exact (lv_sub hl [0, 1, 2, 3] rfl)
          exact ih1 (k + 1) ls (by omega) (by omega) hl6
    have hl7 : lv_has ls 4 [(3, .int (nI 0)), (2, .int (nI (wh P M jm0 0))), (0, .ref o), (1, .int (nI jm0))] := by
      rw [show (nI (wh P M jm0 0)) = (nI jm0) from by first | rfl | simp only [wh, iF_t c1, tn_nI (show jm0 < 2 ^ 31 by omega)]]
      exact (lv_sub hl [0, 1, 2, 3] rfl)
    exact loop1 (M + 1) 0 ls (by omega) (by omega) hl7
  ·
    refine lv_iconst (v := (-1)) hx hb dX5_ring_8 (by decide) ?_
    exact hret _ _ _ (by first | with_reducible rfl | (simp only [s_ring, iF_f c1]; done) | contradiction) dX5_ring_9

theorem ixX5_home_X5 : ∀ w ∈ wsX50, w ∈ wsX5_home := fun _ h => List.mem_cons_of_mem _ (List.mem_append_right _ h)
theorem lkX5_home_25 : Cond.fieldLink RX5 25 (TX5 9).1 (TX5 9).2.1 (TX5 9).2.2.1 ∈ wsX5_home := List.mem_of_getElem? (i := 1) rfl
theorem lkX5_home_65 : Cond.fieldLink RX5 65 (TX5 5).1 (TX5 5).2.1 (TX5 5).2.2.1 ∈ wsX5_home := List.mem_of_getElem? (i := 2) rfl
set_option maxHeartbeats 4000000 in
set_option maxRecDepth 100000 in
theorem kX5_home (l : Launch) (G : Gl) (o : Nat) (ff : Int32) (ftr : Int32) (aso : Nat) (asl : Nat) (ace : Nat) (M : Nat) (B : Nat) (ape : Nat) (aki : Nat) (abo : Nat) (at_ : Int32) (rM : Int32) (rB : Int32) (arp : Nat) (ark : Nat) (arb : Nat) (fb : Int32) (fto : Int32) (R : Nat) (awh : Nat) (awn : Nat) (awm : Nat) (awk : Nat) (amo : Nat) (amu : Nat) (P : Nat → Int32) (U : Nat → Int32) (b : Int32) (hM : M ≤ 5) (hB : B ≤ 4) (hU : ∀ b, b < B → vp_in (U b) M) : Rd l G yX5_home wsX5_home ({ frames := 2, cells := 0, slots := 0, locals := 44 } : Room) [.ref o, .int b] [(o, .inr (5, [.int ff, .int ftr, .ref aso, .ref asl, .ref ace, .int (nI M), .int (nI B), .ref ape, .ref aki, .ref abo, .int at_, .int rM, .int rB, .ref arp, .ref ark, .ref arb, .int fb, .int fto, .int (nI R), .ref awh, .ref awn, .ref awm, .ref awk, .ref amo, .ref amu])), (ape, aI G 25 P), (abo, aI G 4 U)] (some (.int (s_home B M P U b))) := by
  refine Rd.ofI (cc := cX5_home) (maxL := 4) (by decide) rfl (Nat.le_of_ble_eq_true rfl) ?_
  intro p e s m below meth c Q ls hE hP hK hl hret
  obtain ⟨hx, hb, hml, hown, hts⟩ := id hE
  have hl : lv_has ls 4 [(0, .ref o), (1, .int b)] := hl
  refine lv_aload_n hx hb dX5_home_0 rfl (lv_at hl 0 rfl) ?_
  refine lv_iload_n hx hb dX5_home_1 rfl (lv_at hl 1 rfl) ?_
  refine rdV (As := [.int b]) (rest := []) (ci := 5) (q0 := 0) hE (kX5_isBoy l G o ff ftr aso asl ace M B ape aki abo at_ rM rB arp ark arb fb fto R awh awn awm awk amo amu b hB) (cwV 1 hts gX5_home_X5_isBoy rfl rfl rfl (by decide +kernel) ⟨Nat.le_of_ble_eq_true rfl, Nat.le_of_ble_eq_true rfl⟩) hP hK [0] rfl rfl rfl rfl hl.1 rfl (Nat.le_of_ble_eq_true rfl) dX5_home_2 ⟨Nat.zero_le _, Nat.zero_le _⟩ ?_
  refine W.eq (g2 := F0 m 5 ls [.int (bI (vp_in b B))]) rfl ?_
  refine bz_ne (tgt := 10) hx hb dX5_home_5 (by decide) (fun c1 => ?_) (fun c1 => ?_)
  ·
    obtain ⟨jb, hjb, rfl⟩ := vp_in_of c1 (by omega)
    refine lv_aload_n hx hb dX5_home_10 rfl (lv_at hl 0 rfl) ?_
    refine g_get (v := .ref abo) hx hb hts ixX5_home_X5 hown hK hP 0 rfl rfl 9 (by decide) lkX5_home_25 rfl dX5_home_11 ?_
    refine lv_iload_n hx hb dX5_home_14 rfl (lv_at hl 1 rfl) ?_
    refine n_ald hx hb hK hP 2 rfl (k := jb) (by omega) (by decide) dX5_home_15 ?_
    refine lv_tope (show U jb = nI (tn (U jb)) from tn_of (hU jb hjb) (by omega)) ?_
    refine lv_istore_n (lv' := [(2, .int (nI (tn (U jb)))), (0, .ref o), (1, .int (nI jb))]) hx hb dX5_home_16 rfl hl (by decide) rfl (fun ls hl => ?_)
    refine lv_iconst (v := nI 1) hx hb dX5_home_17 (by decide) ?_
    refine lv_istore_n (lv' := [(3, .int (nI 1)), (2, .int (nI (tn (U jb)))), (0, .ref o), (1, .int (nI jb))]) hx hb dX5_home_18 rfl hl (by decide) rfl (fun ls hl => ?_)
    have loop1 : ∀ (d k : Nat) (ls : Array Slot), M < k + d → k ≤ M → (fi (fun k => wh P M (tn (U jb)) (k + 1) = tn (U jb)) k = none) → lv_has ls 4 [(3, .int (nI (k + 1))), (2, .int (nI (wh P M (tn (U jb)) k))), (0, .ref o), (1, .int (nI jb))] → W p l e ({ frames := 2, cells := 0, slots := 0, locals := 44 } : Room) s m ([.ref o, .int (nI jb)] : List Value).toArray below meth c s.heap [] 0 0 Q (F0 m 19 ls []) := by
      intro d
      induction d with
      | zero =>
        intro k ls h1 h2
        omega
      | succ d ih1 =>
        intro k ls hdk hbk hk hl
        refine lv_iload_n hx hb dX5_home_19 rfl (lv_at hl 0 rfl) ?_
        refine lv_aload_n hx hb dX5_home_20 rfl (lv_at hl 2 rfl) ?_
        refine g_get (v := .int (nI M)) hx hb hts ixX5_home_X5 hown hK hP 0 rfl rfl 5 (by decide) lkX5_home_65 rfl dX5_home_21 ?_
        refine ic_gt (tgt := 51) hx hb (by omega) (by omega) dX5_home_24 (by decide) (fun c2 => ?_) (fun c2 => ?_)
        ·
          obtain rfl : M = k := by omega
          refine lv_bipush (v := (-9)) hx hb dX5_home_51 (by decide) ?_
          exact hret _ _ _ (by simp only [s_home, hmf, iF_t c1, tn_nI (show jb < 2 ^ 31 by omega)]; rw [hk]; rfl) dX5_home_53
        ·
          refine lv_aload_n hx hb dX5_home_27 rfl (lv_at hl 2 rfl) ?_
          refine lv_iload_n hx hb dX5_home_28 rfl (lv_at hl 1 rfl) ?_
          refine rdV (As := [.int (nI (wh P M (tn (U jb)) k))]) (rest := []) (ci := 5) (q0 := 0) hE (kX5_nextOf l G o ff ftr aso asl ace M B ape aki abo at_ rM rB arp ark arb fb fto R awh awn awm awk amo amu P (wh P M (tn (U jb)) k) hM (wh_lt (tn_lt (hU jb hjb) (by omega)) k)) (cwV 1 hts gX5_home_X5_nextOf rfl rfl rfl (by decide +kernel) ⟨Nat.le_of_ble_eq_true rfl, Nat.le_of_ble_eq_true rfl⟩) hP hK [0, 1] rfl rfl rfl rfl hl.1 rfl (Nat.le_of_ble_eq_true rfl) dX5_home_29 ⟨Nat.zero_le _, Nat.zero_le _⟩ ?_
          refine W.eq (g2 := F0 m 32 ls [.int (nI (nxt P M (wh P M (tn (U jb)) k)))]) rfl ?_
          refine lv_istore_n (lv' := [(2, .int (nI (nxt P M (wh P M (tn (U jb)) k)))), (3, .int (nI (k + 1))), (0, .ref o), (1, .int (nI jb))]) hx hb dX5_home_32 rfl hl (by decide) rfl (fun ls hl => ?_)
          refine lv_iload_n hx hb dX5_home_33 rfl (lv_at hl 0 rfl) ?_
          refine lv_aload_n hx hb dX5_home_34 rfl (lv_at hl 2 rfl) ?_
          refine g_get (v := .ref abo) hx hb hts ixX5_home_X5 hown hK hP 0 rfl rfl 9 (by decide) lkX5_home_25 rfl dX5_home_35 ?_
          refine lv_iload_n hx hb dX5_home_38 rfl (lv_at hl 3 rfl) ?_
          refine n_ald hx hb hK hP 2 rfl (k := jb) (by omega) (by decide) dX5_home_39 ?_
          refine lv_tope (show U jb = nI (tn (U jb)) from tn_of (hU jb hjb) (by omega)) ?_
          have hwl := wh_lt (P := P) (tn_lt (hU jb hjb) (by omega)) (k + 1)
          have hwl2 : nxt P M (wh P M (tn (U jb)) k) < M := hwl
          have hul := tn_lt (hU jb hjb) (by omega)
          refine ic_ne (tgt := 45) hx hb (by omega) (by omega) dX5_home_40 (by decide) (fun c3 => ?_) (fun c3 => ?_)
          ·
            refine lv_iinc (v := nI ((k + 1) + 1)) (lv' := [(3, .int (nI ((k + 1) + 1))), (2, .int (nI (nxt P M (wh P M (tn (U jb)) k)))), (0, .ref o), (1, .int (nI jb))]) hx hb dX5_home_45 hl (k := 1) rfl (show nI (k + 1) + Int32.ofInt 1 = nI ((k + 1) + 1) from nI_add _ 1) (by decide) rfl (fun ls hl => ?_)
            refine lv_goto (tgt := 19) hx hb dX5_home_48 (by decide) ?_
            have hl4 : lv_has ls 4 [(3, .int (nI ((k + 1) + 1))), (2, .int (nI (wh P M (tn (U jb)) (k + 1)))), (0, .ref o), (1, .int (nI jb))] := by
              rw [show (nI (wh P M (tn (U jb)) (k + 1))) = (nI (nxt P M (wh P M (tn (U jb)) k))) from by first | rfl | simp only [wh, iF_t c1, iF_f (Nat.not_lt.mpr c2), iF_f c3, tn_nI (show jb < 2 ^ 31 by omega)]]
              exact (lv_sub hl [0, 1, 2, 3] rfl)
            exact ih1 (k + 1) ls (by omega) (by omega) (fi_miss hk c3) hl4
          ·
            refine lv_iload_n hx hb dX5_home_43 rfl (lv_at hl 1 rfl) ?_
            exact hret _ _ _ (by simp only [s_home, hmf, iF_t c1, tn_nI (show jb < 2 ^ 31 by omega)]; rw [fi_hit hk c3 (by omega)]; rfl) dX5_home_44
    have hl5 : lv_has ls 4 [(3, .int (nI (0 + 1))), (2, .int (nI (wh P M (tn (U jb)) 0))), (0, .ref o), (1, .int (nI jb))] := by
      rw [show (nI (0 + 1)) = (nI 1) from by first | rfl | simp only [wh, iF_t c1, tn_nI (show jb < 2 ^ 31 by omega)]]
      rw [show (nI (wh P M (tn (U jb)) 0)) = (nI (tn (U jb))) from by first | rfl | simp only [wh, iF_t c1, tn_nI (show jb < 2 ^ 31 by omega)]]
      exact (lv_sub hl [0, 1, 2, 3] rfl)
    exact loop1 (M + 1) 0 ls (by omega) (by omega) rfl hl5
  ·
    refine lv_iconst (v := (-1)) hx hb dX5_home_8 (by decide) ?_
    exact hret _ _ _ (by first | with_reducible rfl | (simp only [s_home, iF_f c1]; done) | contradiction) dX5_home_9

theorem ixX5_never_X5 : ∀ w ∈ wsX50, w ∈ wsX5_never := fun _ h => List.mem_cons_of_mem _ (List.mem_append_right _ h)
theorem lkX5_never_25 : Cond.fieldLink RX5 25 (TX5 9).1 (TX5 9).2.1 (TX5 9).2.2.1 ∈ wsX5_never := List.mem_of_getElem? (i := 1) rfl
theorem lkX5_never_65 : Cond.fieldLink RX5 65 (TX5 5).1 (TX5 5).2.1 (TX5 5).2.2.1 ∈ wsX5_never := List.mem_of_getElem? (i := 2) rfl
set_option maxHeartbeats 4000000 in
set_option maxRecDepth 100000 in
theorem kX5_never (l : Launch) (G : Gl) (o : Nat) (ff : Int32) (ftr : Int32) (aso : Nat) (asl : Nat) (ace : Nat) (M : Nat) (B : Nat) (ape : Nat) (aki : Nat) (abo : Nat) (at_ : Int32) (rM : Int32) (rB : Int32) (arp : Nat) (ark : Nat) (arb : Nat) (fb : Int32) (fto : Int32) (R : Nat) (awh : Nat) (awn : Nat) (awm : Nat) (awk : Nat) (amo : Nat) (amu : Nat) (P : Nat → Int32) (U : Nat → Int32) (b : Int32) (hM : M ≤ 5) (hB : B ≤ 4) (hU : ∀ b, b < B → vp_in (U b) M) : Rd l G yX5_never wsX5_never ({ frames := 2, cells := 0, slots := 0, locals := 44 } : Room) [.ref o, .int b] [(o, .inr (5, [.int ff, .int ftr, .ref aso, .ref asl, .ref ace, .int (nI M), .int (nI B), .ref ape, .ref aki, .ref abo, .int at_, .int rM, .int rB, .ref arp, .ref ark, .ref arb, .int fb, .int fto, .int (nI R), .ref awh, .ref awn, .ref awm, .ref awk, .ref amo, .ref amu])), (ape, aI G 25 P), (abo, aI G 4 U)] (some (.int (s_never B M P U b))) := by
  refine Rd.ofI (cc := cX5_never) (maxL := 5) (by decide) rfl (Nat.le_of_ble_eq_true rfl) ?_
  intro p e s m below meth c Q ls hE hP hK hl hret
  obtain ⟨hx, hb, hml, hown, hts⟩ := id hE
  have hl : lv_has ls 5 [(0, .ref o), (1, .int b)] := hl
  refine lv_aload_n hx hb dX5_never_0 rfl (lv_at hl 0 rfl) ?_
  refine lv_iload_n hx hb dX5_never_1 rfl (lv_at hl 1 rfl) ?_
  refine rdV (As := [.int b]) (rest := []) (ci := 5) (q0 := 0) hE (kX5_isBoy l G o ff ftr aso asl ace M B ape aki abo at_ rM rB arp ark arb fb fto R awh awn awm awk amo amu b hB) (cwV 1 hts gX5_never_X5_isBoy rfl rfl rfl (by decide +kernel) ⟨Nat.le_of_ble_eq_true rfl, Nat.le_of_ble_eq_true rfl⟩) hP hK [0] rfl rfl rfl rfl hl.1 rfl (Nat.le_of_ble_eq_true rfl) dX5_never_2 ⟨Nat.zero_le _, Nat.zero_le _⟩ ?_
  refine W.eq (g2 := F0 m 5 ls [.int (bI (vp_in b B))]) rfl ?_
  refine bz_ne (tgt := 10) hx hb dX5_never_5 (by decide) (fun c1 => ?_) (fun c1 => ?_)
  ·
    obtain ⟨jb, hjb, rfl⟩ := vp_in_of c1 (by omega)
    refine lv_iconst (v := nI 0) hx hb dX5_never_10 (by decide) ?_
    refine lv_istore_n (lv' := [(2, .int (nI 0)), (0, .ref o), (1, .int (nI jb))]) hx hb dX5_never_11 rfl hl (by decide) rfl (fun ls hl => ?_)
    refine lv_aload_n hx hb dX5_never_12 rfl (lv_at hl 1 rfl) ?_
    refine g_get (v := .ref abo) hx hb hts ixX5_never_X5 hown hK hP 0 rfl rfl 9 (by decide) lkX5_never_25 rfl dX5_never_13 ?_
    refine lv_iload_n hx hb dX5_never_16 rfl (lv_at hl 2 rfl) ?_
    refine n_ald hx hb hK hP 2 rfl (k := jb) (by omega) (by decide) dX5_never_17 ?_
    refine lv_tope (show U jb = nI (tn (U jb)) from tn_of (hU jb hjb) (by omega)) ?_
    refine lv_istore_n (lv' := [(3, .int (nI (tn (U jb)))), (2, .int (nI 0)), (0, .ref o), (1, .int (nI jb))]) hx hb dX5_never_18 rfl hl (by decide) rfl (fun ls hl => ?_)
    refine lv_iconst (v := nI 0) hx hb dX5_never_19 (by decide) ?_
    refine lv_istore (lv' := [(4, .int (nI 0)), (3, .int (nI (tn (U jb)))), (2, .int (nI 0)), (0, .ref o), (1, .int (nI jb))]) hx hb dX5_never_20 hl (by decide) rfl (fun ls hl => ?_)
    have loop1 : ∀ (d k : Nat) (ls : Array Slot), M < k + d → k ≤ M → lv_has ls 5 [(4, .int (nI k)), (3, .int (nI (wh P M (tn (U jb)) k))), (2, .int (mt P M (tn (U jb)) k)), (0, .ref o), (1, .int (nI jb))] → W p l e ({ frames := 2, cells := 0, slots := 0, locals := 44 } : Room) s m ([.ref o, .int (nI jb)] : List Value).toArray below meth c s.heap [] 0 0 Q (F0 m 22 ls []) := by
      intro d
      induction d with
      | zero =>
        intro k ls h1 h2
        omega
      | succ d ih1 =>
        intro k ls hdk hbk hl
        refine lv_iload hx hb dX5_never_22 (lv_at hl 0 rfl) ?_
        refine lv_aload_n hx hb dX5_never_24 rfl (lv_at hl 3 rfl) ?_
        refine g_get (v := .int (nI M)) hx hb hts ixX5_never_X5 hown hK hP 0 rfl rfl 5 (by decide) lkX5_never_65 rfl dX5_never_25 ?_
        refine ic_ge (tgt := 49) hx hb (by omega) (by omega) dX5_never_28 (by decide) (fun c2 => ?_) (fun c2 => ?_)
        ·
          obtain rfl : M = k := by omega
          refine lv_iconst (v := nI 1) hx hb dX5_never_49 (by decide) ?_
          refine lv_aload_n hx hb dX5_never_50 rfl (lv_at hl 3 rfl) ?_
          refine g_get (v := .int (nI M)) hx hb hts ixX5_never_X5 hown hK hP 0 rfl rfl 5 (by decide) lkX5_never_65 rfl dX5_never_51 ?_
          refine lv_ishl hx hb dX5_never_54 ?_
          refine lv_iconst (v := nI 1) hx hb dX5_never_55 (by decide) ?_
          refine lv_isub hx hb dX5_never_56 ?_
          refine lv_iload_n hx hb dX5_never_57 rfl (lv_at hl 2 rfl) ?_
          refine lv_iconst (v := (-1)) hx hb dX5_never_58 (by decide) ?_
          refine lv_ixor hx hb dX5_never_59 ?_
          refine lv_iand hx hb dX5_never_60 ?_
          exact hret _ _ _ (by first | with_reducible rfl | (simp only [s_never, iF_t c1, iF_f (Nat.not_lt.mpr c2), tn_nI (show jb < 2 ^ 31 by omega)]; done) | contradiction) dX5_never_61
        ·
          refine lv_iload_n hx hb dX5_never_31 rfl (lv_at hl 2 rfl) ?_
          refine lv_iconst (v := nI 1) hx hb dX5_never_32 (by decide) ?_
          refine lv_iload_n hx hb dX5_never_33 rfl (lv_at hl 1 rfl) ?_
          refine lv_ishl hx hb dX5_never_34 ?_
          refine lv_ior hx hb dX5_never_35 ?_
          refine lv_istore_n (lv' := [(2, .int ((mt P M (tn (U jb)) k) ||| ((nI 1) <<< (nI (wh P M (tn (U jb)) k) &&& 31)))), (4, .int (nI k)), (3, .int (nI (wh P M (tn (U jb)) k))), (0, .ref o), (1, .int (nI jb))]) hx hb dX5_never_36 rfl hl (by decide) rfl (fun ls hl => ?_)
          refine lv_aload_n hx hb dX5_never_37 rfl (lv_at hl 3 rfl) ?_
          refine lv_iload_n hx hb dX5_never_38 rfl (lv_at hl 2 rfl) ?_
          refine rdV (As := [.int (nI (wh P M (tn (U jb)) k))]) (rest := []) (ci := 5) (q0 := 0) hE (kX5_nextOf l G o ff ftr aso asl ace M B ape aki abo at_ rM rB arp ark arb fb fto R awh awn awm awk amo amu P (wh P M (tn (U jb)) k) hM (wh_lt (tn_lt (hU jb hjb) (by omega)) k)) (cwV 1 hts gX5_never_X5_nextOf rfl rfl rfl (by decide +kernel) ⟨Nat.le_of_ble_eq_true rfl, Nat.le_of_ble_eq_true rfl⟩) hP hK [0, 1] rfl rfl rfl rfl hl.1 rfl (Nat.le_of_ble_eq_true rfl) dX5_never_39 ⟨Nat.zero_le _, Nat.zero_le _⟩ ?_
          refine W.eq (g2 := F0 m 42 ls [.int (nI (nxt P M (wh P M (tn (U jb)) k)))]) rfl ?_
          refine lv_istore_n (lv' := [(3, .int (nI (nxt P M (wh P M (tn (U jb)) k)))), (2, .int ((mt P M (tn (U jb)) k) ||| ((nI 1) <<< (nI (wh P M (tn (U jb)) k) &&& 31)))), (4, .int (nI k)), (0, .ref o), (1, .int (nI jb))]) hx hb dX5_never_42 rfl hl (by decide) rfl (fun ls hl => ?_)
          refine lv_iinc (v := nI (k + 1)) (lv' := [(4, .int (nI (k + 1))), (3, .int (nI (nxt P M (wh P M (tn (U jb)) k)))), (2, .int ((mt P M (tn (U jb)) k) ||| ((nI 1) <<< (nI (wh P M (tn (U jb)) k) &&& 31)))), (0, .ref o), (1, .int (nI jb))]) hx hb dX5_never_43 hl (k := 2) rfl (show nI k + Int32.ofInt 1 = nI (k + 1) from nI_add _ 1) (by decide) rfl (fun ls hl => ?_)
          refine lv_goto (tgt := 22) hx hb dX5_never_46 (by decide) ?_
          have hl3 : lv_has ls 5 [(4, .int (nI (k + 1))), (3, .int (nI (wh P M (tn (U jb)) (k + 1)))), (2, .int (mt P M (tn (U jb)) (k + 1))), (0, .ref o), (1, .int (nI jb))] := by
            rw [show (nI (wh P M (tn (U jb)) (k + 1))) = (nI (nxt P M (wh P M (tn (U jb)) k))) from by first | rfl | simp only [mt, wh, iF_t c1, iF_t c2, tn_nI (show jb < 2 ^ 31 by omega)]]
            rw [show (mt P M (tn (U jb)) (k + 1)) = ((mt P M (tn (U jb)) k) ||| ((nI 1) <<< (nI (wh P M (tn (U jb)) k) &&& 31))) from by first | rfl | simp only [mt, wh, iF_t c1, iF_t c2, tn_nI (show jb < 2 ^ 31 by omega)]]
            exact (lv_sub hl [0, 1, 2, 3, 4] rfl)
          exact ih1 (k + 1) ls (by omega) (by omega) hl3
    have hl4 : lv_has ls 5 [(4, .int (nI 0)), (3, .int (nI (wh P M (tn (U jb)) 0))), (2, .int (mt P M (tn (U jb)) 0)), (0, .ref o), (1, .int (nI jb))] := by
      rw [show (nI (wh P M (tn (U jb)) 0)) = (nI (tn (U jb))) from by first | rfl | simp only [mt, wh, iF_t c1, tn_nI (show jb < 2 ^ 31 by omega)]]
      rw [show (mt P M (tn (U jb)) 0) = (nI 0) from by first | rfl | simp only [mt, wh, iF_t c1, tn_nI (show jb < 2 ^ 31 by omega)]]
      exact (lv_sub hl [0, 1, 2, 3, 4] rfl)
    exact loop1 (M + 1) 0 ls (by omega) (by omega) hl4
  ·
    refine lv_iconst (v := (-1)) hx hb dX5_never_8 (by decide) ?_
    exact hret _ _ _ (by first | with_reducible rfl | (simp only [s_never, iF_f c1]; done) | contradiction) dX5_never_9

theorem ixX5_many_X5 : ∀ w ∈ wsX50, w ∈ wsX5_many := fun _ h => List.mem_cons_of_mem _ (List.mem_append_right _ h)
theorem lkX5_many_98 : Cond.fieldLink RX5 98 (TX5 18).1 (TX5 18).2.1 (TX5 18).2.2.1 ∈ wsX5_many := List.mem_of_getElem? (i := 3) rfl
theorem lkX5_many_65 : Cond.fieldLink RX5 65 (TX5 5).1 (TX5 5).2.1 (TX5 5).2.2.1 ∈ wsX5_many := List.mem_of_getElem? (i := 2) rfl
theorem lkX5_many_68 : Cond.fieldLink RX5 68 (TX5 6).1 (TX5 6).2.1 (TX5 6).2.2.1 ∈ wsX5_many := List.mem_of_getElem? (i := 1) rfl
set_option maxHeartbeats 4000000 in
set_option maxRecDepth 100000 in
theorem kX5_many (l : Launch) (G : Gl) (o : Nat) (ff : Int32) (ftr : Int32) (aso : Nat) (asl : Nat) (ace : Nat) (M : Nat) (B : Nat) (ape : Nat) (aki : Nat) (abo : Nat) (at_ : Int32) (rM : Int32) (rB : Int32) (arp : Nat) (ark : Nat) (arb : Nat) (fb : Int32) (fto : Int32) (R : Nat) (awh : Nat) (awn : Nat) (awm : Nat) (awk : Nat) (amo : Nat) (amu : Nat) (w : Int32) : Rd l G yX5_many wsX5_many ({ frames := 0, cells := 0, slots := 0, locals := 0 } : Room) [.ref o, .int w] [(o, .inr (5, [.int ff, .int ftr, .ref aso, .ref asl, .ref ace, .int (nI M), .int (nI B), .ref ape, .ref aki, .ref abo, .int at_, .int rM, .int rB, .ref arp, .ref ark, .ref arb, .int fb, .int fto, .int (nI R), .ref awh, .ref awn, .ref awm, .ref awk, .ref amo, .ref amu]))] (some (.int (s_many B M R w))) := by
  refine Rd.ofI (cc := cX5_many) (maxL := 2) (by decide) rfl (Nat.le_of_ble_eq_true rfl) ?_
  intro p e s m below meth c Q ls hE hP hK hl hret
  obtain ⟨hx, hb, hml, hown, hts⟩ := id hE
  have hl : lv_has ls 2 [(0, .ref o), (1, .int w)] := hl
  refine lv_iload_n hx hb dX5_many_0 rfl (lv_at hl 1 rfl) ?_
  refine lv_if_ne (tgt := 11) hx hb dX5_many_1 (by decide) (fun c1 => ?_) (fun c1 => ?_)
  ·
    refine lv_iload_n hx hb dX5_many_11 rfl (lv_at hl 1 rfl) ?_
    refine lv_iconst (v := nI 1) hx hb dX5_many_12 (by decide) ?_
    refine lv_icmp_ne (tgt := 23) hx hb dX5_many_13 (by decide) (fun c2 => ?_) (fun c2 => ?_)
    ·
      refine lv_iload_n hx hb dX5_many_23 rfl (lv_at hl 1 rfl) ?_
      refine lv_iconst (v := nI 2) hx hb dX5_many_24 (by decide) ?_
      refine lv_icmp_ne (tgt := 35) hx hb dX5_many_25 (by decide) (fun c3 => ?_) (fun c3 => ?_)
      ·
        refine lv_bipush (v := (-2)) hx hb dX5_many_35 (by decide) ?_
        exact hret _ _ _ (by first | with_reducible rfl | (simp only [s_many, iF_f c1, iF_f c2, iF_f (show ¬ w = 1 from c2), iF_f c3, iF_f (show ¬ w = 2 from c3)]; done) | contradiction) dX5_many_37
      ·
        refine lv_aload_n hx hb dX5_many_28 rfl (lv_at hl 0 rfl) ?_
        refine g_get (v := .int (nI R)) hx hb hts ixX5_many_X5 hown hK hP 0 rfl rfl 18 (by decide) lkX5_many_98 rfl dX5_many_29 ?_
        refine lv_goto (tgt := 37) hx hb dX5_many_32 (by decide) ?_
        exact hret _ _ _ (by first | with_reducible rfl | (simp only [s_many, iF_f c1, iF_f c2, iF_f (show ¬ w = 1 from c2), iF_t c3, iF_t (show w = 2 from c3)]; done) | contradiction) dX5_many_37
    ·
      refine lv_aload_n hx hb dX5_many_16 rfl (lv_at hl 0 rfl) ?_
      refine g_get (v := .int (nI M)) hx hb hts ixX5_many_X5 hown hK hP 0 rfl rfl 5 (by decide) lkX5_many_65 rfl dX5_many_17 ?_
      refine lv_goto (tgt := 37) hx hb dX5_many_20 (by decide) ?_
      exact hret _ _ _ (by first | with_reducible rfl | (simp only [s_many, iF_f c1, iF_t c2, iF_t (show w = 1 from c2)]; done) | contradiction) dX5_many_37
  ·
    refine lv_aload_n hx hb dX5_many_4 rfl (lv_at hl 0 rfl) ?_
    refine g_get (v := .int (nI B)) hx hb hts ixX5_many_X5 hown hK hP 0 rfl rfl 6 (by decide) lkX5_many_68 rfl dX5_many_5 ?_
    refine lv_goto (tgt := 37) hx hb dX5_many_8 (by decide) ?_
    exact hret _ _ _ (by first | with_reducible rfl | (simp only [s_many, iF_t c1]; done) | contradiction) dX5_many_37

theorem ixX5_begins_X5 : ∀ w ∈ wsX50, w ∈ wsX5_begins := fun _ h => List.mem_cons_of_mem _ (List.mem_append_right _ h)
theorem lkX5_begins_168 : Cond.fieldLink RX5 168 (TX5 1).1 (TX5 1).2.1 (TX5 1).2.2.1 ∈ wsX5_begins := List.mem_of_getElem? (i := 1) rfl
set_option maxHeartbeats 4000000 in
set_option maxRecDepth 100000 in
theorem kX5_begins (l : Launch) (G : Gl) (o : Nat) (ff : Int32) (ftr : Int32) (aso : Nat) (asl : Nat) (ace : Nat) (M : Nat) (B : Nat) (ape : Nat) (aki : Nat) (abo : Nat) (at_ : Int32) (rM : Int32) (rB : Int32) (arp : Nat) (ark : Nat) (arb : Nat) (fb : Int32) (fto : Int32) (R : Nat) (awh : Nat) (awn : Nat) (awm : Nat) (awk : Nat) (amo : Nat) (amu : Nat) (q : Int32) : Wt l G yX5_begins wsX5_begins ({ frames := 0, cells := 0, slots := 0, locals := 0 } : Room) [.ref o, .int q] [(o, .inr (5, [.int ff, .int ftr, .ref aso, .ref asl, .ref ace, .int (nI M), .int (nI B), .ref ape, .ref aki, .ref abo, .int at_, .int rM, .int rB, .ref arp, .ref ark, .ref arb, .int fb, .int fto, .int (nI R), .ref awh, .ref awn, .ref awm, .ref awk, .ref amo, .ref amu]))] [(o, .inr (5, [.int ff, .int (lt1 ftr q), .ref aso, .ref asl, .ref ace, .int (nI M), .int (nI B), .ref ape, .ref aki, .ref abo, .int at_, .int rM, .int rB, .ref arp, .ref ark, .ref arb, .int fb, .int fto, .int (nI R), .ref awh, .ref awn, .ref awm, .ref awk, .ref amo, .ref amu]))] none := by
  refine Wt.ofV (cc := cX5_begins) (maxL := 2) (by decide) rfl (Nat.le_of_ble_eq_true rfl) ?_
  intro p e s m below meth c Q A ls hE hin hP hK hD hS hl hret
  obtain ⟨hx, hb, hml, hown, hts⟩ := id hE
  have hl : lv_has ls 2 [(0, .ref o), (1, .int q)] := hl
  refine lv_aload_n hx hb dX5_begins_0 rfl (lv_at hl 0 rfl) ?_
  refine lv_bipush (v := nI 31) hx hb dX5_begins_1 (by decide) ?_
  refine lv_aload_n hx hb dX5_begins_3 rfl (lv_at hl 0 rfl) ?_
  refine g_get (v := .int ftr) hx hb hts ixX5_begins_X5 hown hK hP 0 rfl rfl 1 (by decide) lkX5_begins_168 rfl dX5_begins_4 ?_
  refine lv_imul hx hb dX5_begins_7 ?_
  refine lv_iload_n hx hb dX5_begins_8 rfl (lv_at hl 1 rfl) ?_
  refine lv_iadd hx hb dX5_begins_9 ?_
  refine g_put (v := (((nI 31) * ftr) + q)) hx hb hts ixX5_begins_X5 tyX5 tyX5_ok nmX5 hown hK hP hD hS 0 rfl rfl 1 (by decide) lkX5_begins_168 rfl rfl (Nat.le_of_ble_eq_true rfl) dX5_begins_10 (fun H locs hP hD hS => ?_)
  have hP : va_P G.1 vwCl [(o, .inr (5, [.int ff, .int (((nI 31) * ftr) + q), .ref aso, .ref asl, .ref ace, .int (nI M), .int (nI B), .ref ape, .ref aki, .ref abo, .int at_, .int rM, .int rB, .ref arp, .ref ark, .ref arb, .int fb, .int fto, .int (nI R), .ref awh, .ref awn, .ref awm, .ref awk, .ref amo, .ref amu]))] H := hP
  have hD : va_D A [(o, .inr (5, [.int ff, .int (((nI 31) * ftr) + q), .ref aso, .ref asl, .ref ace, .int (nI M), .int (nI B), .ref ape, .ref aki, .ref abo, .int at_, .int rM, .int rB, .ref arp, .ref ark, .ref arb, .int fb, .int fto, .int (nI R), .ref awh, .ref awn, .ref awm, .ref awk, .ref amo, .ref amu]))] := hD
  exact hret _ _ _ _ (by first | with_reducible exact hP | (simp only [lt1]; with_reducible exact hP) | contradiction | (simp only [lt1]; exact hP) | exact hP) hS dX5_begins_13

theorem ixX5_trace_X5 : ∀ w ∈ wsX50, w ∈ wsX5_trace := fun _ h => List.mem_cons_of_mem _ (List.mem_append_right _ h)
theorem lkX5_trace_168 : Cond.fieldLink RX5 168 (TX5 1).1 (TX5 1).2.1 (TX5 1).2.2.1 ∈ wsX5_trace := List.mem_of_getElem? (i := 1) rfl
set_option maxHeartbeats 4000000 in
set_option maxRecDepth 100000 in
theorem kX5_trace (l : Launch) (G : Gl) (o : Nat) (ff : Int32) (ftr : Int32) (aso : Nat) (asl : Nat) (ace : Nat) (M : Nat) (B : Nat) (ape : Nat) (aki : Nat) (abo : Nat) (at_ : Int32) (rM : Int32) (rB : Int32) (arp : Nat) (ark : Nat) (arb : Nat) (fb : Int32) (fto : Int32) (R : Nat) (awh : Nat) (awn : Nat) (awm : Nat) (awk : Nat) (amo : Nat) (amu : Nat) : Rd l G yX5_trace wsX5_trace ({ frames := 0, cells := 0, slots := 0, locals := 0 } : Room) [.ref o] [(o, .inr (5, [.int ff, .int ftr, .ref aso, .ref asl, .ref ace, .int (nI M), .int (nI B), .ref ape, .ref aki, .ref abo, .int at_, .int rM, .int rB, .ref arp, .ref ark, .ref arb, .int fb, .int fto, .int (nI R), .ref awh, .ref awn, .ref awm, .ref awk, .ref amo, .ref amu]))] (some (.int ftr)) := by
  refine Rd.ofI (cc := cX5_trace) (maxL := 1) (by decide) rfl (Nat.le_of_ble_eq_true rfl) ?_
  intro p e s m below meth c Q ls hE hP hK hl hret
  obtain ⟨hx, hb, hml, hown, hts⟩ := id hE
  have hl : lv_has ls 1 [(0, .ref o)] := hl
  refine lv_aload_n hx hb dX5_trace_0 rfl (lv_at hl 0 rfl) ?_
  refine g_get (v := .int ftr) hx hb hts ixX5_trace_X5 hown hK hP 0 rfl rfl 1 (by decide) lkX5_trace_168 rfl dX5_trace_1 ?_
  exact hret _ _ _ (by first | with_reducible rfl | (simp only []; done) | contradiction) dX5_trace_4
