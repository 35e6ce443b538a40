set_option maxHeartbeats 4000000 in
set_option maxRecDepth 100000 in
theorem kX5_inLeastTerms (l : Launch) (G : Gl) (u : Nat) (d0 : Nat) (w : Int32) (hu : u ≤ 32) (hd0 : 0 < d0) (hd2 : d0 ≤ 32) : Rd l G yX5_inLeastTerms wsX5_inLeastTerms ({ frames := 0, cells := 0, slots := 0, locals := 0 } : Room) [.long (lN u), .long (lN d0), .int w] [] (some (.long (iF (w = 0) (lN (u / Nat.gcd u d0)) (lN (d0 / Nat.gcd u d0))))) := by
  refine Rd.ofL (cc := cX5_inLeastTerms) (maxL := 11) (by decide) rfl (Nat.le_of_ble_eq_true rfl) ?_
  intro p e s m below meth c Q ls hE hP hK hl hret
  obtain ⟨hx, hb, hml, hown, hts⟩ := id hE
  have hl : lv_has ls 11 [(0, .long (lN u)), (2, .long (lN d0)), (4, .int w)] := hl
  refine lv_lload_n hx hb dX5_inLeastTerms_0 rfl (lv_at hl 0 rfl) ?_
  refine lv_lstore (lv' := [(5, .long (lN u)), (0, .long (lN u)), (2, .long (lN d0)), (4, .int w)]) hx hb dX5_inLeastTerms_1 hl (by decide) rfl (fun ls hl => ?_)
  refine lv_lload_n hx hb dX5_inLeastTerms_3 rfl (lv_at hl 2 rfl) ?_
  refine lv_lstore (lv' := [(7, .long (lN d0)), (5, .long (lN u)), (0, .long (lN u)), (2, .long (lN d0)), (4, .int w)]) hx hb dX5_inLeastTerms_4 hl (by decide) rfl (fun ls hl => ?_)
  have loop1 : ∀ (d k : Nat) (ls : Array Slot), d0 < k + d → k ≤ d0 → (Nat.gcd (exy u d0 k).1 (exy u d0 k).2 = Nat.gcd u d0) → ((exy u d0 k).2 + k ≤ d0) → ((exy u d0 k).1 ≤ 32) → lv_has ls 11 [(7, .long (lN ((exy u d0 k).2))), (5, .long (lN ((exy u d0 k).1))), (0, .long (lN u)), (2, .long (lN d0)), (4, .int w)] → W p l e ({ frames := 0, cells := 0, slots := 0, locals := 0 } : Room) s m ([.long (lN u), .long (lN d0), .int w] : List Value).toArray below meth c s.heap [] 0 0 Q (F0 m 6 ls []) := by
    intro d
    induction d with
    | zero =>
      intro k ls h1 h2
      omega
    | succ d ih1 =>
      intro k ls hdk hbk hg hy hx9 hl
      refine lv_lload hx hb dX5_inLeastTerms_6 (lv_at hl 0 rfl) ?_
      refine lv_lconst (v := lN 0) hx hb dX5_inLeastTerms_8 (by decide) ?_
      refine W.lcmp hx hb dX5_inLeastTerms_9 ?_
      refine lv_tope (show lg_cmp (lN ((exy u d0 k).2)) (lN 0) = bI (0 < ((exy u d0 k).2)) from lcz (by omega)) ?_
      refine bz_eq (tgt := 31) hx hb dX5_inLeastTerms_10 (by decide) (fun c1 => ?_) (fun c1 => ?_)
      ·
        have hxg : (exy u d0 k).1 = Nat.gcd u d0 := by rw [← hg, show (exy u d0 k).2 = 0 by omega, Nat.gcd_zero_right]
        have hgp : 0 < Nat.gcd u d0 := Nat.gcd_pos_of_pos_right u hd0
        refine lv_iload hx hb dX5_inLeastTerms_31 (lv_at hl 4 rfl) ?_
        refine lv_if_ne (tgt := 43) hx hb dX5_inLeastTerms_33 (by decide) (fun c2 => ?_) (fun c2 => ?_)
        ·
          refine lv_lload_n hx hb dX5_inLeastTerms_43 rfl (lv_at hl 3 rfl) ?_
          refine lv_lload hx hb dX5_inLeastTerms_44 (lv_at hl 1 rfl) ?_
          refine lv_ldiv hx hb dX5_inLeastTerms_46 (lnz (by omega) (by omega)) ?_
          refine lv_topeL (show (lN d0) / (lN ((exy u d0 k).1)) = lN (d0 / ((exy u d0 k).1)) from pk_lDiv (by omega) (by omega) (by omega)) ?_
          exact hret _ _ _ (by simp only [iF_f c1, iF_f c2, hxg]) dX5_inLeastTerms_47
        ·
          refine lv_lload_n hx hb dX5_inLeastTerms_36 rfl (lv_at hl 2 rfl) ?_
          refine lv_lload hx hb dX5_inLeastTerms_37 (lv_at hl 1 rfl) ?_
          refine lv_ldiv hx hb dX5_inLeastTerms_39 (lnz (by omega) (by omega)) ?_
          refine lv_topeL (show (lN u) / (lN ((exy u d0 k).1)) = lN (u / ((exy u d0 k).1)) from pk_lDiv (by omega) (by omega) (by omega)) ?_
          refine lv_goto (tgt := 47) hx hb dX5_inLeastTerms_40 (by decide) ?_
          exact hret _ _ _ (by simp only [iF_f c1, iF_t c2, hxg]) dX5_inLeastTerms_47
      ·
        have hmod := Nat.mod_lt (exy u d0 k).1 c1
        refine lv_lload hx hb dX5_inLeastTerms_13 (lv_at hl 1 rfl) ?_
        refine lv_lload hx hb dX5_inLeastTerms_15 (lv_at hl 0 rfl) ?_
        refine lv_lrem hx hb dX5_inLeastTerms_17 (lnz (by omega) (by omega)) ?_
        refine lv_topeL (show (lN ((exy u d0 k).1)) - (lN ((exy u d0 k).1)) / (lN ((exy u d0 k).2)) * (lN ((exy u d0 k).2)) = lN (((exy u d0 k).1) % ((exy u d0 k).2)) from pk_lRem (by omega) (by omega) (by omega)) ?_
        refine lv_lstore (lv' := [(9, .long (lN (((exy u d0 k).1) % ((exy u d0 k).2)))), (7, .long (lN ((exy u d0 k).2))), (5, .long (lN ((exy u d0 k).1))), (0, .long (lN u)), (2, .long (lN d0)), (4, .int w)]) hx hb dX5_inLeastTerms_18 hl (by decide) rfl (fun ls hl => ?_)
        refine lv_lload hx hb dX5_inLeastTerms_20 (lv_at hl 1 rfl) ?_
        refine lv_lstore (lv' := [(5, .long (lN ((exy u d0 k).2))), (9, .long (lN (((exy u d0 k).1) % ((exy u d0 k).2)))), (7, .long (lN ((exy u d0 k).2))), (0, .long (lN u)), (2, .long (lN d0)), (4, .int w)]) hx hb dX5_inLeastTerms_22 hl (by decide) rfl (fun ls hl => ?_)
        refine lv_lload hx hb dX5_inLeastTerms_24 (lv_at hl 1 rfl) ?_
        refine lv_lstore (lv' := [(7, .long (lN (((exy u d0 k).1) % ((exy u d0 k).2)))), (5, .long (lN ((exy u d0 k).2))), (9, .long (lN (((exy u d0 k).1) % ((exy u d0 k).2)))), (0, .long (lN u)), (2, .long (lN d0)), (4, .int w)]) hx hb dX5_inLeastTerms_26 hl (by decide) rfl (fun ls hl => ?_)
        refine lv_goto (tgt := 6) hx hb dX5_inLeastTerms_28 (by decide) ?_
        have hl3 : lv_has ls 11 [(7, .long (lN ((exy u d0 (k + 1)).2))), (5, .long (lN ((exy u d0 (k + 1)).1))), (0, .long (lN u)), (2, .long (lN d0)), (4, .int w)] := by
          rw [show (lN ((exy u d0 (k + 1)).2)) = (lN (((exy u d0 k).1) % ((exy u d0 k).2))) from by first | rfl | simp only [iF_t c1]]
          rw [show (lN ((exy u d0 (k + 1)).1)) = (lN ((exy u d0 k).2)) from by first | rfl | simp only [iF_t c1]]
          exact (lv_sub hl [0, 1, 3, 4, 5] rfl)
        exact ih1 (k + 1) ls (by omega) (by omega) (show Nat.gcd (exy u d0 k).2 ((exy u d0 k).1 % (exy u d0 k).2) = Nat.gcd u d0 from by rw [Nat.gcd_comm, ← Nat.gcd_rec, Nat.gcd_comm]; exact hg) (show (exy u d0 k).1 % (exy u d0 k).2 + (k + 1) ≤ d0 from by omega) (show (exy u d0 k).2 ≤ 32 from by omega) hl3
  have hl4 : lv_has ls 11 [(7, .long (lN ((exy u d0 0).2))), (5, .long (lN ((exy u d0 0).1))), (0, .long (lN u)), (2, .long (lN d0)), (4, .int w)] := by
    rw [show (lN ((exy u d0 0).2)) = (lN d0) from by first | rfl | simp only []]
    rw [show (lN ((exy u d0 0).1)) = (lN u) from by first | rfl | simp only []]
    exact (lv_sub hl [0, 1, 2, 3, 4] rfl)
  exact loop1 (d0 + 1) 0 ls (by omega) (by omega) rfl (Nat.le_refl d0) hu hl4

theorem ixX5_odds_X5 : ∀ w ∈ wsX50, w ∈ wsX5_odds := fun _ h => List.mem_cons_of_mem _ (List.mem_append_right _ h)
theorem lkX5_odds_65 : Cond.fieldLink RX5 65 (TX5 5).1 (TX5 5).2.1 (TX5 5).2.2.1 ∈ wsX5_odds := List.mem_of_getElem? (i := 2) rfl
theorem lkX5_odds_19 : Cond.fieldLink RX5 19 (TX5 7).1 (TX5 7).2.1 (TX5 7).2.2.1 ∈ wsX5_odds := List.mem_of_getElem? (i := 5) rfl
theorem lkX5_odds_49 : Cond.fieldLink RX5 49 (TX5 23).1 (TX5 23).2.1 (TX5 23).2.2.1 ∈ wsX5_odds := List.mem_of_getElem? (i := 3) rfl
theorem lkX5_odds_52 : Cond.fieldLink RX5 52 (TX5 24).1 (TX5 24).2.1 (TX5 24).2.2.1 ∈ wsX5_odds := List.mem_of_getElem? (i := 4) rfl
set_option maxHeartbeats 4000000 in
set_option maxRecDepth 100000 in
theorem kX5_odds (l : Launch) (G : Gl) (o : Nat) (ff : Int32) (ftr : Int32) (aso : Nat) (asl : Nat) (ace : Nat) (M : Nat) (B : Nat) (ape : Nat) (aki : Nat) (abo : Nat) (at_ : Int32) (rM : Int32) (rB : Int32) (arp : Nat) (ark : Nat) (arb : Nat) (fb : Int32) (fto : Int32) (R : Nat) (awh : Nat) (awn : Nat) (awm : Nat) (awk : Nat) (amo : Nat) (amu : Nat) (P : Nat → Int32) (U : Nat → Int32) (MO : Nat → Int32) (MU : Nat → Int32) (b : Int32) (m0 : Int32) (n : Int32) (w : Int32) (hM : M ≤ 5) (hB : B ≤ 4) (hU : ∀ b, b < B → vp_in (U b) M) : Wt l G yX5_odds wsX5_odds ({ frames := 3, cells := 0, slots := 0, locals := 68 } : Room) [.ref o, .int b, .int m0, .int n, .int w] [(o, .inr (5, [.int ff, .int ftr, .ref aso, .ref asl, .ref ace, .int (nI M), .int (nI B), .ref ape, .ref aki, .ref abo, .int at_, .int rM, .int rB, .ref arp, .ref ark, .ref arb, .int fb, .int fto, .int (nI R), .ref awh, .ref awn, .ref awm, .ref awk, .ref amo, .ref amu])), (ape, aI G 25 P), (abo, aI G 4 U), (amo, aI G 5 MO), (amu, aI G 5 MU)] [(o, .inr (5, [.int ff, .int ftr, .ref aso, .ref asl, .ref ace, .int (nI M), .int (nI B), .ref ape, .ref aki, .ref abo, .int at_, .int rM, .int rB, .ref arp, .ref ark, .ref arb, .int fb, .int fto, .int (nI R), .ref awh, .ref awn, .ref awm, .ref awk, .ref amo, .ref amu])), (ape, aI G 25 P), (abo, aI G 4 U), (amo, aI G 5 (odG B M b m0 n w (moF P MO M M) MO)), (amu, aI G 5 (odG B M b m0 n w (muF P MU M M) MU))] (some (.long (s_odds B M P U b m0 n w))) := by
  refine Wt.ofL (cc := cX5_odds) (maxL := 8) (by decide) rfl (Nat.le_of_ble_eq_true rfl) ?_
  intro p e s m below meth c Q A ls hE hP hK hD hS hl hret
  obtain ⟨hx, hb, hml, hown, hts⟩ := id hE
  have hl : lv_has ls 8 [(0, .ref o), (1, .int b), (2, .int m0), (3, .int n), (4, .int w)] := hl
  refine lv_aload_n hx hb dX5_odds_0 rfl (lv_at hl 0 rfl) ?_
  refine lv_iload_n hx hb dX5_odds_1 rfl (lv_at hl 1 rfl) ?_
  refine rdV (As := [.int b]) (rest := []) (ci := 5) (q0 := 0) hE (kX5_isBoy l G o ff ftr aso asl ace M B ape aki abo at_ rM rB arp ark arb fb fto R awh awn awm awk amo amu b hB) (cwV 1 hts gX5_odds_X5_isBoy rfl rfl rfl (by decide +kernel) ⟨Nat.le_of_ble_eq_true rfl, Nat.le_of_ble_eq_true rfl⟩) hP hK [0] rfl rfl rfl rfl hl.1 rfl (Nat.le_of_ble_eq_true rfl) dX5_odds_2 ⟨Nat.zero_le _, Nat.zero_le _⟩ ?_
  refine W.eq (g2 := F0 m 5 ls [.int (bI (vp_in b B))]) rfl ?_
  refine bz_eq (tgt := 36) hx hb dX5_odds_5 (by decide) (fun c1 => ?_) (fun c1 => ?_)
  ·
    refine lv_ldc2 (v := (-9223372036854775808)) hx hb hown (hts (.constantLong RX5 59 (-9223372036854775808)) (List.mem_of_getElem? (i := 1) rfl)) dX5_odds_36 ?_
    exact hret _ _ _ _ _ (by first | with_reducible rfl | (simp only [s_odds, odv, odG, iF_f c1]; done) | contradiction) (by first | with_reducible exact hP | (simp only [s_odds, odv, odG, iF_f c1]; with_reducible exact hP) | contradiction | (simp only [s_odds, odv, odG, iF_f c1]; exact hP) | exact hP) hS dX5_odds_39
  ·
    obtain ⟨jb, hjb, rfl⟩ := vp_in_of c1 (by omega)
    refine lv_aload_n hx hb dX5_odds_8 rfl (lv_at hl 0 rfl) ?_
    refine lv_iload_n hx hb dX5_odds_9 rfl (lv_at hl 2 rfl) ?_
    refine rdV (As := [.int m0]) (rest := []) (ci := 5) (q0 := 0) hE (kX5_isMaster l G o ff ftr aso asl ace M B ape aki abo at_ rM rB arp ark arb fb fto R awh awn awm awk amo amu m0 hM) (cwV 1 hts gX5_odds_X5_isMaster rfl rfl rfl (by decide +kernel) ⟨Nat.le_of_ble_eq_true rfl, Nat.le_of_ble_eq_true rfl⟩) hP hK [0] rfl rfl rfl rfl hl.1 rfl (Nat.le_of_ble_eq_true rfl) dX5_odds_10 ⟨Nat.zero_le _, Nat.zero_le _⟩ ?_
    refine W.eq (g2 := F0 m 13 ls [.int (bI (vp_in m0 M))]) rfl ?_
    refine bz_eq (tgt := 36) hx hb dX5_odds_13 (by decide) (fun c2 => ?_) (fun c2 => ?_)
    ·
      refine lv_ldc2 (v := (-9223372036854775808)) hx hb hown (hts (.constantLong RX5 59 (-9223372036854775808)) (List.mem_of_getElem? (i := 1) rfl)) dX5_odds_36 ?_
      exact hret _ _ _ _ _ (by first | with_reducible rfl | (simp only [s_odds, odv, odG, iF_t c1, iF_f c2, tn_nI (show jb < 2 ^ 31 by omega)]; done) | contradiction) (by first | with_reducible exact hP | (simp only [s_odds, odv, odG, iF_t c1, iF_f c2, tn_nI (show jb < 2 ^ 31 by omega)]; with_reducible exact hP) | contradiction | (simp only [s_odds, odv, odG, iF_t c1, iF_f c2, tn_nI (show jb < 2 ^ 31 by omega)]; exact hP) | exact hP) hS dX5_odds_39
    ·
      obtain ⟨jm0, hjm0, rfl⟩ := vp_in_of c2 (by omega)
      refine lv_iload_n hx hb dX5_odds_16 rfl (lv_at hl 3 rfl) ?_
      refine lv_iconst (v := nI 0) hx hb dX5_odds_17 (by decide) ?_
      refine lv_bipush (v := nI 20) hx hb dX5_odds_18 (by decide) ?_
      refine rdS (As := [.int n, .int (nI 0), .int (nI 20)]) (rest := []) hE (kX5_within0 l G n 20 (by first | omega | assumption | exact hU _ (by omega) | exact hz _ (by omega) | exact hK3 _ (by omega))) (va_cwS 3 hts gX5_odds_X5_within rfl rfl rfl (by decide +kernel) ⟨Nat.le_of_ble_eq_true rfl, Nat.le_of_ble_eq_true rfl⟩) hP hK [] rfl rfl hl.1 rfl (Nat.le_of_ble_eq_true rfl) dX5_odds_20 ⟨Nat.zero_le _, Nat.zero_le _⟩ ?_
      refine W.eq (g2 := F0 m 23 ls [.int (bI (vp_in n (20 + 1)))]) rfl ?_
      refine bz_eq (tgt := 36) hx hb dX5_odds_23 (by decide) (fun c3 => ?_) (fun c3 => ?_)
      ·
        refine lv_ldc2 (v := (-9223372036854775808)) hx hb hown (hts (.constantLong RX5 59 (-9223372036854775808)) (List.mem_of_getElem? (i := 1) rfl)) dX5_odds_36 ?_
        exact hret _ _ _ _ _ (by first | with_reducible rfl | (simp only [s_odds, odv, odG, iF_t c1, iF_t c2, iF_f c3, tn_nI (show jb < 2 ^ 31 by omega), tn_nI (show jm0 < 2 ^ 31 by omega)]; done) | contradiction) (by first | with_reducible exact hP | (simp only [s_odds, odv, odG, iF_t c1, iF_t c2, iF_f c3, tn_nI (show jb < 2 ^ 31 by omega), tn_nI (show jm0 < 2 ^ 31 by omega)]; with_reducible exact hP) | contradiction | (simp only [s_odds, odv, odG, iF_t c1, iF_t c2, iF_f c3, tn_nI (show jb < 2 ^ 31 by omega), tn_nI (show jm0 < 2 ^ 31 by omega)]; exact hP) | exact hP) hS dX5_odds_39
      ·
        obtain ⟨jn, hjn, rfl⟩ := vp_in_of c3 (by omega)
        refine lv_iload hx hb dX5_odds_26 (lv_at hl 4 rfl) ?_
        refine lv_iconst (v := nI 0) hx hb dX5_odds_28 (by decide) ?_
        refine lv_iconst (v := nI 1) hx hb dX5_odds_29 (by decide) ?_
        refine rdS (As := [.int w, .int (nI 0), .int (nI 1)]) (rest := []) hE (kX5_within0 l G w 1 (by first | omega | assumption | exact hU _ (by omega) | exact hz _ (by omega) | exact hK3 _ (by omega))) (va_cwS 3 hts gX5_odds_X5_within rfl rfl rfl (by decide +kernel) ⟨Nat.le_of_ble_eq_true rfl, Nat.le_of_ble_eq_true rfl⟩) hP hK [] rfl rfl hl.1 rfl (Nat.le_of_ble_eq_true rfl) dX5_odds_30 ⟨Nat.zero_le _, Nat.zero_le _⟩ ?_
        refine W.eq (g2 := F0 m 33 ls [.int (bI (vp_in w (1 + 1)))]) rfl ?_
        refine bz_ne (tgt := 40) hx hb dX5_odds_33 (by decide) (fun c4 => ?_) (fun c4 => ?_)
        ·
          have hpw := pow_le M hM
          have hpos : 0 < 2 ^ M := Nat.pow_pos (by decide)
          refine lv_iconst (v := nI 0) hx hb dX5_odds_40 (by decide) ?_
          refine lv_istore (lv' := [(5, .int (nI 0)), (0, .ref o), (1, .int (nI jb)), (2, .int (nI jm0)), (3, .int (nI jn)), (4, .int w)]) hx hb dX5_odds_41 hl (by decide) rfl (fun ls hl => ?_)
          have loop1 : ∀ (d a : Nat) (H : Heap) (locs : List Loc) (ls : Array Slot), M < a + d → a ≤ M → va_P G.1 vwCl [(o, .inr (5, [.int ff, .int ftr, .ref aso, .ref asl, .ref ace, .int (nI M), .int (nI B), .ref ape, .ref aki, .ref abo, .int at_, .int rM, .int rB, .ref arp, .ref ark, .ref arb, .int fb, .int fto, .int (nI R), .ref awh, .ref awn, .ref awm, .ref awk, .ref amo, .ref amu])), (ape, aI G 25 P), (abo, aI G 4 U), (amo, aI G 5 (moF P MO M a)), (amu, aI G 5 (muF P MU M a))] H → va_D A [(o, .inr (5, [.int ff, .int ftr, .ref aso, .ref asl, .ref ace, .int (nI M), .int (nI B), .ref ape, .ref aki, .ref abo, .int at_, .int rM, .int rB, .ref arp, .ref ark, .ref arb, .int fb, .int fto, .int (nI R), .ref awh, .ref awn, .ref awm, .ref awk, .ref amo, .ref amu])), (ape, aI G 25 P), (abo, aI G 4 U), (amo, aI G 5 (moF P MO M a)), (amu, aI G 5 (muF P MU M a))] → va_S A s.heap H locs → lv_has ls 8 [(5, .int (nI a)), (0, .ref o), (1, .int (nI jb)), (2, .int (nI jm0)), (3, .int (nI jn)), (4, .int w)] → W p l e ({ frames := 3, cells := 0, slots := 0, locals := 68 } : Room) s m ([.ref o, .int (nI jb), .int (nI jm0), .int (nI jn), .int w] : List Value).toArray below meth c H locs 0 0 Q (F0 m 43 ls []) := by
            intro d
            induction d with
            | zero =>
              intro a H locs ls h1 h2
              omega
            | succ d ih1 =>
              intro a H locs ls hda hba hP hD hS hl
              refine lv_iload hx hb dX5_odds_43 (lv_at hl 0 rfl) ?_
              refine lv_aload_n hx hb dX5_odds_45 rfl (lv_at hl 1 rfl) ?_
              refine g_get (v := .int (nI M)) hx hb hts ixX5_odds_X5 hown hK hP 0 rfl rfl 5 (by decide) lkX5_odds_65 rfl dX5_odds_46 ?_
              refine ic_ge (tgt := 95) hx hb (by omega) (by omega) dX5_odds_49 (by decide) (fun c5 => ?_) (fun c5 => ?_)
              ·
                obtain rfl : M = a := by omega
                refine lv_iconst (v := nI 0) hx hb dX5_odds_95 (by decide) ?_
                refine lv_istore (lv' := [(5, .int (nI 0)), (0, .ref o), (1, .int (nI jb)), (2, .int (nI jm0)), (3, .int (nI jn)), (4, .int w)]) hx hb dX5_odds_96 hl (by decide) rfl (fun ls hl => ?_)
                refine lv_iconst (v := nI 0) hx hb dX5_odds_98 (by decide) ?_
                refine lv_istore (lv' := [(6, .int (nI 0)), (5, .int (nI 0)), (0, .ref o), (1, .int (nI jb)), (2, .int (nI jm0)), (3, .int (nI jn)), (4, .int w)]) hx hb dX5_odds_99 hl (by decide) rfl (fun ls hl => ?_)
                have loop2 : ∀ (d k : Nat) (H : Heap) (locs : List Loc) (ls : Array Slot), 2 ^ M < k + d → k ≤ 2 ^ M → va_P G.1 vwCl [(o, .inr (5, [.int ff, .int ftr, .ref aso, .ref asl, .ref ace, .int (nI M), .int (nI B), .ref ape, .ref aki, .ref abo, .int at_, .int rM, .int rB, .ref arp, .ref ark, .ref arb, .int fb, .int fto, .int (nI R), .ref awh, .ref awn, .ref awm, .ref awk, .ref amo, .ref amu])), (ape, aI G 25 (opF P P M k)), (abo, aI G 4 U), (amo, aI G 5 (moF P MO M M)), (amu, aI G 5 (muF P MU M M))] H → va_D A [(o, .inr (5, [.int ff, .int ftr, .ref aso, .ref asl, .ref ace, .int (nI M), .int (nI B), .ref ape, .ref aki, .ref abo, .int at_, .int rM, .int rB, .ref arp, .ref ark, .ref arb, .int fb, .int fto, .int (nI R), .ref awh, .ref awn, .ref awm, .ref awk, .ref amo, .ref amu])), (ape, aI G 25 (opF P P M k)), (abo, aI G 4 U), (amo, aI G 5 (moF P MO M M)), (amu, aI G 5 (muF P MU M M))] → va_S A s.heap H locs → lv_has ls 8 [(6, .int (nI k)), (5, .int (nI (oc P M (tn (U jb)) jn jm0 k))), (0, .ref o), (1, .int (nI jb)), (2, .int (nI jm0)), (3, .int (nI jn)), (4, .int w)] → W p l e ({ frames := 3, cells := 0, slots := 0, locals := 68 } : Room) s m ([.ref o, .int (nI jb), .int (nI jm0), .int (nI jn), .int w] : List Value).toArray below meth c H locs 0 0 Q (F0 m 101 ls []) := by
                  intro d
                  induction d with
                  | zero =>
                    intro k H locs ls h1 h2
                    omega
                  | succ d ih2 =>
                    intro k H locs ls hdk hbk hP hD hS hl
                    refine lv_iload hx hb dX5_odds_101 (lv_at hl 0 rfl) ?_
                    refine lv_iconst (v := nI 1) hx hb dX5_odds_103 (by decide) ?_
                    refine lv_aload_n hx hb dX5_odds_104 rfl (lv_at hl 2 rfl) ?_
                    refine g_get (v := .int (nI M)) hx hb hts ixX5_odds_X5 hown hK hP 0 rfl rfl 5 (by decide) lkX5_odds_65 rfl dX5_odds_105 ?_
                    refine lv_ishl hx hb dX5_odds_108 ?_
                    refine lv_tope (show (nI 1) <<< (nI M &&& 31) = nI (2 ^ M) from shl_pow M hM) ?_
                    refine ic_ge (tgt := 195) hx hb (by omega) (by omega) dX5_odds_109 (by decide) (fun c6 => ?_) (fun c6 => ?_)
                    ·
                      obtain rfl : 2 ^ M = k := by omega
                      refine lv_iconst (v := nI 0) hx hb dX5_odds_195 (by decide) ?_
                      refine lv_istore (lv' := [(6, .int (nI 0)), (5, .int (nI (oc P M (tn (U jb)) jn jm0 (2 ^ M)))), (0, .ref o), (1, .int (nI jb)), (2, .int (nI jm0)), (3, .int (nI jn)), (4, .int w)]) hx hb dX5_odds_196 hl (by decide) rfl (fun ls hl => ?_)
                      have loop3 : ∀ (d a : Nat) (H : Heap) (locs : List Loc) (ls : Array Slot), M < a + d → a ≤ M → va_P G.1 vwCl [(o, .inr (5, [.int ff, .int ftr, .ref aso, .ref asl, .ref ace, .int (nI M), .int (nI B), .ref ape, .ref aki, .ref abo, .int at_, .int rM, .int rB, .ref arp, .ref ark, .ref arb, .int fb, .int fto, .int (nI R), .ref awh, .ref awn, .ref awm, .ref awk, .ref amo, .ref amu])), (ape, aI G 25 (rsF P (opF P P M (2 ^ M)) M a)), (abo, aI G 4 U), (amo, aI G 5 (moF P MO M M)), (amu, aI G 5 (muF P MU M M))] H → va_D A [(o, .inr (5, [.int ff, .int ftr, .ref aso, .ref asl, .ref ace, .int (nI M), .int (nI B), .ref ape, .ref aki, .ref abo, .int at_, .int rM, .int rB, .ref arp, .ref ark, .ref arb, .int fb, .int fto, .int (nI R), .ref awh, .ref awn, .ref awm, .ref awk, .ref amo, .ref amu])), (ape, aI G 25 (rsF P (opF P P M (2 ^ M)) M a)), (abo, aI G 4 U), (amo, aI G 5 (moF P MO M M)), (amu, aI G 5 (muF P MU M M))] → va_S A s.heap H locs → lv_has ls 8 [(6, .int (nI a)), (5, .int (nI (oc P M (tn (U jb)) jn jm0 (2 ^ M)))), (0, .ref o), (1, .int (nI jb)), (2, .int (nI jm0)), (3, .int (nI jn)), (4, .int w)] → W p l e ({ frames := 3, cells := 0, slots := 0, locals := 68 } : Room) s m ([.ref o, .int (nI jb), .int (nI jm0), .int (nI jn), .int w] : List Value).toArray below meth c H locs 0 0 Q (F0 m 198 ls []) := by
                        intro d
                        induction d with
                        | zero =>
                          intro a H locs ls h1 h2
                          omega
                        | succ d ih3 =>
                          intro a H locs ls hda hba hP hD hS hl
                          refine lv_iload hx hb dX5_odds_198 (lv_at hl 0 rfl) ?_
                          refine lv_aload_n hx hb dX5_odds_200 rfl (lv_at hl 2 rfl) ?_
                          refine g_get (v := .int (nI M)) hx hb hts ixX5_odds_X5 hown hK hP 0 rfl rfl 5 (by decide) lkX5_odds_65 rfl dX5_odds_201 ?_
                          refine ic_ge (tgt := 237) hx hb (by omega) (by omega) dX5_odds_204 (by decide) (fun c7 => ?_) (fun c7 => ?_)
                          ·
                            obtain rfl : M = a := by omega
                            have hP : va_P G.1 vwCl [(o, .inr (5, [.int ff, .int ftr, .ref aso, .ref asl, .ref ace, .int (nI M), .int (nI B), .ref ape, .ref aki, .ref abo, .int at_, .int rM, .int rB, .ref arp, .ref ark, .ref arb, .int fb, .int fto, .int (nI R), .ref awh, .ref awn, .ref awm, .ref awk, .ref amo, .ref amu])), (ape, aI G 25 P), (abo, aI G 4 U), (amo, aI G 5 (moF P MO M M)), (amu, aI G 5 (muF P MU M M))] H := by have h0 := hP; rw [rs_end (P := P) (M := M) (off_op (2 ^ M))] at h0; exact h0
                            have hD : va_D A [(o, .inr (5, [.int ff, .int ftr, .ref aso, .ref asl, .ref ace, .int (nI M), .int (nI B), .ref ape, .ref aki, .ref abo, .int at_, .int rM, .int rB, .ref arp, .ref ark, .ref arb, .int fb, .int fto, .int (nI R), .ref awh, .ref awn, .ref awm, .ref awk, .ref amo, .ref amu])), (ape, aI G 25 P), (abo, aI G 4 U), (amo, aI G 5 (moF P MO M M)), (amu, aI G 5 (muF P MU M M))] := by have h0 := hD; rw [rs_end (P := P) (M := M) (off_op (2 ^ M))] at h0; exact h0
                            have hol := oc_le (P := P) (M := M) (u := tn (U jb)) (n := jn) (g := jm0) (2 ^ M)
                            refine lv_iload hx hb dX5_odds_237 (lv_at hl 1 rfl) ?_
                            refine lv_i2l (v := lN (oc P M (tn (U jb)) jn jm0 (2 ^ M))) hx hb dX5_odds_239 (nI_l (by omega)) ?_
                            refine lv_lconst (v := lN 1) hx hb dX5_odds_240 (by decide) ?_
                            refine lv_aload_n hx hb dX5_odds_241 rfl (lv_at hl 2 rfl) ?_
                            refine g_get (v := .int (nI M)) hx hb hts ixX5_odds_X5 hown hK hP 0 rfl rfl 5 (by decide) lkX5_odds_65 rfl dX5_odds_242 ?_
                            refine lv_lshl (v := lN (2 ^ M)) hx hb dX5_odds_245 (shl_powL M hM) ?_
                            refine lv_iload hx hb dX5_odds_246 (lv_at hl 6 rfl) ?_
                            refine rdS (As := [.long (lN (oc P M (tn (U jb)) jn jm0 (2 ^ M))), .long (lN (2 ^ M)), .int w]) (rest := []) hE (kX5_inLeastTerms l G (oc P M (tn (U jb)) jn jm0 (2 ^ M)) (2 ^ M) w (by first | omega | assumption | exact hU _ (by omega) | exact hz _ (by omega) | exact hK3 _ (by omega)) (by first | omega | assumption | exact hU _ (by omega) | exact hz _ (by omega) | exact hK3 _ (by omega)) (by first | omega | assumption | exact hU _ (by omega) | exact hz _ (by omega) | exact hK3 _ (by omega))) (va_cwS 3 hts gX5_odds_X5_inLeastTerms rfl rfl rfl (by decide +kernel) ⟨Nat.le_of_ble_eq_true rfl, Nat.le_of_ble_eq_true rfl⟩) hP hK [] rfl rfl hl.1 rfl (Nat.le_of_ble_eq_true rfl) dX5_odds_248 ⟨Nat.zero_le _, Nat.zero_le _⟩ ?_
                            refine W.eq (g2 := F0 m 251 ls [.long (iF (w = 0) (lN ((oc P M (tn (U jb)) jn jm0 (2 ^ M)) / Nat.gcd (oc P M (tn (U jb)) jn jm0 (2 ^ M)) (2 ^ M))) (lN ((2 ^ M) / Nat.gcd (oc P M (tn (U jb)) jn jm0 (2 ^ M)) (2 ^ M))))]) rfl ?_
                            exact hret _ _ _ _ _ (by first | with_reducible rfl | (simp only [s_odds, odv, odG, iF_t c1, iF_t c2, iF_t c3, iF_t c4, iF_f (Nat.not_lt.mpr c5), iF_f (Nat.not_lt.mpr c6), iF_f (Nat.not_lt.mpr c7), tn_nI (show jb < 2 ^ 31 by omega), tn_nI (show jm0 < 2 ^ 31 by omega), tn_nI (show jn < 2 ^ 31 by omega)]; done) | contradiction) (by first | with_reducible exact hP | (simp only [s_odds, odv, odG, iF_t c1, iF_t c2, iF_t c3, iF_t c4, iF_f (Nat.not_lt.mpr c5), iF_f (Nat.not_lt.mpr c6), iF_f (Nat.not_lt.mpr c7), tn_nI (show jb < 2 ^ 31 by omega), tn_nI (show jm0 < 2 ^ 31 by omega), tn_nI (show jn < 2 ^ 31 by omega)]; with_reducible exact hP) | contradiction | (simp only [s_odds, odv, odG, iF_t c1, iF_t c2, iF_t c3, iF_t c4, iF_f (Nat.not_lt.mpr c5), iF_f (Nat.not_lt.mpr c6), iF_f (Nat.not_lt.mpr c7), tn_nI (show jb < 2 ^ 31 by omega), tn_nI (show jm0 < 2 ^ 31 by omega), tn_nI (show jn < 2 ^ 31 by omega)]; exact hP) | exact hP) hS dX5_odds_251
                          ·
                            have hnl := nxt_lt (P := P) (show a < M by omega)
                            refine lv_aload_n hx hb dX5_odds_207 rfl (lv_at hl 2 rfl) ?_
                            refine g_get (v := .ref ape) hx hb hts ixX5_odds_X5 hown hK hP 0 rfl rfl 7 (by decide) lkX5_odds_19 rfl dX5_odds_208 ?_
                            refine lv_iload hx hb dX5_odds_211 (lv_at hl 0 rfl) ?_
                            refine lv_aload_n hx hb dX5_odds_213 rfl (lv_at hl 2 rfl) ?_
                            refine g_get (v := .ref amo) hx hb hts ixX5_odds_X5 hown hK hP 0 rfl rfl 23 (by decide) lkX5_odds_49 rfl dX5_odds_214 ?_
                            refine lv_iload hx hb dX5_odds_217 (lv_at hl 0 rfl) ?_
                            refine n_ald hx hb hK hP 3 rfl (k := a) (by omega) (by decide) dX5_odds_219 ?_
                            refine lv_tope (show (moF P MO M M) a = nI (nxt P M a) from moF_at (by omega)) ?_
                            refine rdS (As := [.int (nI a), .int (nI (nxt P M a))]) (rest := [.ref ape]) hE (kX5_spot l G a (nxt P M a) ) (va_cwS 2 hts gX5_odds_X5_spot rfl rfl rfl (by decide +kernel) ⟨Nat.le_of_ble_eq_true rfl, Nat.le_of_ble_eq_true rfl⟩) hP hK [] rfl rfl hl.1 rfl (Nat.le_of_ble_eq_true rfl) dX5_odds_220 ⟨Nat.zero_le _, Nat.zero_le _⟩ ?_
                            refine W.eq (g2 := F0 m 223 ls [.int (nI (a * 5 + (nxt P M a))), .ref ape]) rfl ?_
                            refine lv_aload_n hx hb dX5_odds_223 rfl (lv_at hl 2 rfl) ?_
                            refine g_get (v := .ref amu) hx hb hts ixX5_odds_X5 hown hK hP 0 rfl rfl 24 (by decide) lkX5_odds_52 rfl dX5_odds_224 ?_
                            refine lv_iload hx hb dX5_odds_227 (lv_at hl 0 rfl) ?_
                            refine n_ald hx hb hK hP 4 rfl (k := a) (by omega) (by decide) dX5_odds_229 ?_
                            refine lv_tope (show (muF P MU M M) a = P (a * 5 + nxt P M a) from muF_at (by omega)) ?_
                            refine n_ast hx hb hK hP hD hS 1 rfl (k := a * 5 + (nxt P M a)) (by omega) (by decide) dX5_odds_230 (fun H locs hP hD hS => ?_)
                            have hP : va_P G.1 vwCl [(o, .inr (5, [.int ff, .int ftr, .ref aso, .ref asl, .ref ace, .int (nI M), .int (nI B), .ref ape, .ref aki, .ref abo, .int at_, .int rM, .int rB, .ref arp, .ref ark, .ref arb, .int fb, .int fto, .int (nI R), .ref awh, .ref awn, .ref awm, .ref awk, .ref amo, .ref amu])), (ape, aI G 25 (upd (rsF P (opF P P M (2 ^ M)) M a) (a * 5 + (nxt P M a)) (P (a * 5 + nxt P M a)))), (abo, aI G 4 U), (amo, aI G 5 (moF P MO M M)), (amu, aI G 5 (muF P MU M M))] H := hP
                            have hD : va_D A [(o, .inr (5, [.int ff, .int ftr, .ref aso, .ref asl, .ref ace, .int (nI M), .int (nI B), .ref ape, .ref aki, .ref abo, .int at_, .int rM, .int rB, .ref arp, .ref ark, .ref arb, .int fb, .int fto, .int (nI R), .ref awh, .ref awn, .ref awm, .ref awk, .ref amo, .ref amu])), (ape, aI G 25 (upd (rsF P (opF P P M (2 ^ M)) M a) (a * 5 + (nxt P M a)) (P (a * 5 + nxt P M a)))), (abo, aI G 4 U), (amo, aI G 5 (moF P MO M M)), (amu, aI G 5 (muF P MU M M))] := hD
                            refine lv_iinc (v := nI (a + 1)) (lv' := [(6, .int (nI (a + 1))), (5, .int (nI (oc P M (tn (U jb)) jn jm0 (2 ^ M)))), (0, .ref o), (1, .int (nI jb)), (2, .int (nI jm0)), (3, .int (nI jn)), (4, .int w)]) hx hb dX5_odds_231 hl (k := 0) rfl (show nI a + Int32.ofInt 1 = nI (a + 1) from nI_add _ 1) (by decide) rfl (fun ls hl => ?_)
                            refine lv_goto (tgt := 198) hx hb dX5_odds_234 (by decide) ?_
                            have hP8 : va_P G.1 vwCl [(o, .inr (5, [.int ff, .int ftr, .ref aso, .ref asl, .ref ace, .int (nI M), .int (nI B), .ref ape, .ref aki, .ref abo, .int at_, .int rM, .int rB, .ref arp, .ref ark, .ref arb, .int fb, .int fto, .int (nI R), .ref awh, .ref awn, .ref awm, .ref awk, .ref amo, .ref amu])), (ape, aI G 25 (rsF P (opF P P M (2 ^ M)) M (a + 1))), (abo, aI G 4 U), (amo, aI G 5 (moF P MO M M)), (amu, aI G 5 (muF P MU M M))] H := by
                              rw [show (rsF P (opF P P M (2 ^ M)) M (a + 1)) = (upd (rsF P (opF P P M (2 ^ M)) M a) (a * 5 + (nxt P M a)) (P (a * 5 + nxt P M a))) from by first | rfl | simp only [rsF, iF_t c1, iF_t c2, iF_t c3, iF_t c4, iF_f (Nat.not_lt.mpr c5), iF_f (Nat.not_lt.mpr c6), iF_t c7, tn_nI (show jb < 2 ^ 31 by omega), tn_nI (show jm0 < 2 ^ 31 by omega), tn_nI (show jn < 2 ^ 31 by omega)]]
                              exact hP
                            have hD8 : va_D A [(o, .inr (5, [.int ff, .int ftr, .ref aso, .ref asl, .ref ace, .int (nI M), .int (nI B), .ref ape, .ref aki, .ref abo, .int at_, .int rM, .int rB, .ref arp, .ref ark, .ref arb, .int fb, .int fto, .int (nI R), .ref awh, .ref awn, .ref awm, .ref awk, .ref amo, .ref amu])), (ape, aI G 25 (rsF P (opF P P M (2 ^ M)) M (a + 1))), (abo, aI G 4 U), (amo, aI G 5 (moF P MO M M)), (amu, aI G 5 (muF P MU M M))] := by
                              rw [show (rsF P (opF P P M (2 ^ M)) M (a + 1)) = (upd (rsF P (opF P P M (2 ^ M)) M a) (a * 5 + (nxt P M a)) (P (a * 5 + nxt P M a))) from by first | rfl | simp only [rsF, iF_t c1, iF_t c2, iF_t c3, iF_t c4, iF_f (Nat.not_lt.mpr c5), iF_f (Nat.not_lt.mpr c6), iF_t c7, tn_nI (show jb < 2 ^ 31 by omega), tn_nI (show jm0 < 2 ^ 31 by omega), tn_nI (show jn < 2 ^ 31 by omega)]]
                              exact hD
                            exact ih3 (a + 1) H locs ls (by omega) (by omega) hP8 hD8 hS (lv_sub hl [0, 1, 2, 3, 4, 5, 6] rfl)
                      have hP9 : va_P G.1 vwCl [(o, .inr (5, [.int ff, .int ftr, .ref aso, .ref asl, .ref ace, .int (nI M), .int (nI B), .ref ape, .ref aki, .ref abo, .int at_, .int rM, .int rB, .ref arp, .ref ark, .ref arb, .int fb, .int fto, .int (nI R), .ref awh, .ref awn, .ref awm, .ref awk, .ref amo, .ref amu])), (ape, aI G 25 (rsF P (opF P P M (2 ^ M)) M 0)), (abo, aI G 4 U), (amo, aI G 5 (moF P MO M M)), (amu, aI G 5 (muF P MU M M))] H := by
                        rw [show (rsF P (opF P P M (2 ^ M)) M 0) = (opF P P M (2 ^ M)) from by first | rfl | simp only [rsF, iF_t c1, iF_t c2, iF_t c3, iF_t c4, iF_f (Nat.not_lt.mpr c5), iF_f (Nat.not_lt.mpr c6), tn_nI (show jb < 2 ^ 31 by omega), tn_nI (show jm0 < 2 ^ 31 by omega), tn_nI (show jn < 2 ^ 31 by omega)]]
                        exact hP
                      have hD9 : va_D A [(o, .inr (5, [.int ff, .int ftr, .ref aso, .ref asl, .ref ace, .int (nI M), .int (nI B), .ref ape, .ref aki, .ref abo, .int at_, .int rM, .int rB, .ref arp, .ref ark, .ref arb, .int fb, .int fto, .int (nI R), .ref awh, .ref awn, .ref awm, .ref awk, .ref amo, .ref amu])), (ape, aI G 25 (rsF P (opF P P M (2 ^ M)) M 0)), (abo, aI G 4 U), (amo, aI G 5 (moF P MO M M)), (amu, aI G 5 (muF P MU M M))] := by
                        rw [show (rsF P (opF P P M (2 ^ M)) M 0) = (opF P P M (2 ^ M)) from by first | rfl | simp only [rsF, iF_t c1, iF_t c2, iF_t c3, iF_t c4, iF_f (Nat.not_lt.mpr c5), iF_f (Nat.not_lt.mpr c6), tn_nI (show jb < 2 ^ 31 by omega), tn_nI (show jm0 < 2 ^ 31 by omega), tn_nI (show jn < 2 ^ 31 by omega)]]
                        exact hD
                      exact loop3 (M + 1) 0 H locs ls (by omega) (by omega) hP9 hD9 hS (lv_sub hl [0, 1, 2, 3, 4, 5, 6] rfl)
                    ·
                      refine lv_iconst (v := nI 0) hx hb dX5_odds_112 (by decide) ?_
                      refine lv_istore (lv' := [(7, .int (nI 0)), (6, .int (nI k)), (5, .int (nI (oc P M (tn (U jb)) jn jm0 k))), (0, .ref o), (1, .int (nI jb)), (2, .int (nI jm0)), (3, .int (nI jn)), (4, .int w)]) hx hb dX5_odds_113 hl (by decide) rfl (fun ls hl => ?_)
                      have loop4 : ∀ (d a : Nat) (H : Heap) (locs : List Loc) (ls : Array Slot), M < a + d → a ≤ M → va_P G.1 vwCl [(o, .inr (5, [.int ff, .int ftr, .ref aso, .ref asl, .ref ace, .int (nI M), .int (nI B), .ref ape, .ref aki, .ref abo, .int at_, .int rM, .int rB, .ref arp, .ref ark, .ref arb, .int fb, .int fto, .int (nI R), .ref awh, .ref awn, .ref awm, .ref awk, .ref amo, .ref amu])), (ape, aI G 25 (ipF P (opF P P M k) M k a)), (abo, aI G 4 U), (amo, aI G 5 (moF P MO M M)), (amu, aI G 5 (muF P MU M M))] H → va_D A [(o, .inr (5, [.int ff, .int ftr, .ref aso, .ref asl, .ref ace, .int (nI M), .int (nI B), .ref ape, .ref aki, .ref abo, .int at_, .int rM, .int rB, .ref arp, .ref ark, .ref arb, .int fb, .int fto, .int (nI R), .ref awh, .ref awn, .ref awm, .ref awk, .ref amo, .ref amu])), (ape, aI G 25 (ipF P (opF P P M k) M k a)), (abo, aI G 4 U), (amo, aI G 5 (moF P MO M M)), (amu, aI G 5 (muF P MU M M))] → va_S A s.heap H locs → lv_has ls 8 [(7, .int (nI a)), (6, .int (nI k)), (5, .int (nI (oc P M (tn (U jb)) jn jm0 k))), (0, .ref o), (1, .int (nI jb)), (2, .int (nI jm0)), (3, .int (nI jn)), (4, .int w)] → W p l e ({ frames := 3, cells := 0, slots := 0, locals := 68 } : Room) s m ([.ref o, .int (nI jb), .int (nI jm0), .int (nI jn), .int w] : List Value).toArray below meth c H locs 0 0 Q (F0 m 115 ls []) := by
                        intro d
                        induction d with
                        | zero =>
                          intro a H locs ls h1 h2
                          omega
                        | succ d ih4 =>
                          intro a H locs ls hda hba hP hD hS hl
                          refine lv_iload hx hb dX5_odds_115 (lv_at hl 0 rfl) ?_
                          refine lv_aload_n hx hb dX5_odds_117 rfl (lv_at hl 3 rfl) ?_
                          refine g_get (v := .int (nI M)) hx hb hts ixX5_odds_X5 hown hK hP 0 rfl rfl 5 (by decide) lkX5_odds_65 rfl dX5_odds_118 ?_
                          refine ic_ge (tgt := 169) hx hb (by omega) (by omega) dX5_odds_121 (by decide) (fun c10 => ?_) (fun c10 => ?_)
                          ·
                            obtain rfl : M = a := by omega
                            have hP : va_P G.1 vwCl [(o, .inr (5, [.int ff, .int ftr, .ref aso, .ref asl, .ref ace, .int (nI M), .int (nI B), .ref ape, .ref aki, .ref abo, .int at_, .int rM, .int rB, .ref arp, .ref ark, .ref arb, .int fb, .int fto, .int (nI R), .ref awh, .ref awn, .ref awm, .ref awk, .ref amo, .ref amu])), (ape, aI G 25 (pdp P M k M)), (abo, aI G 4 U), (amo, aI G 5 (moF P MO M M)), (amu, aI G 5 (muF P MU M M))] H := by have h0 := hP; rw [ip_end hM (off_op k)] at h0; exact h0
                            have hD : va_D A [(o, .inr (5, [.int ff, .int ftr, .ref aso, .ref asl, .ref ace, .int (nI M), .int (nI B), .ref ape, .ref aki, .ref abo, .int at_, .int rM, .int rB, .ref arp, .ref ark, .ref arb, .int fb, .int fto, .int (nI R), .ref awh, .ref awn, .ref awm, .ref awk, .ref amo, .ref amu])), (ape, aI G 25 (pdp P M k M)), (abo, aI G 4 U), (amo, aI G 5 (moF P MO M M)), (amu, aI G 5 (muF P MU M M))] := by have h0 := hD; rw [ip_end hM (off_op k)] at h0; exact h0
                            refine lv_iload hx hb dX5_odds_169 (lv_at hl 2 rfl) ?_
                            refine lv_aload_n hx hb dX5_odds_171 rfl (lv_at hl 3 rfl) ?_
                            refine lv_iload_n hx hb dX5_odds_172 rfl (lv_at hl 4 rfl) ?_
                            refine lv_iload_n hx hb dX5_odds_173 rfl (lv_at hl 6 rfl) ?_
                            refine rdV (As := [.int (nI jb), .int (nI jn)]) (rest := [.int (nI (oc P M (tn (U jb)) jn jm0 k))]) (ci := 5) (q0 := 0) hE (kX5_whereOf l G o ff ftr aso asl ace M B ape aki abo at_ rM rB arp ark arb fb fto R awh awn awm awk amo amu (pdp P M k M) U jb jn hM (by first | omega | assumption | exact hU _ (by omega) | exact hz _ (by omega) | exact hK3 _ (by omega)) (by first | omega | assumption | exact hU _ (by omega) | exact hz _ (by omega) | exact hK3 _ (by omega)) (by first | omega | assumption | exact hU _ (by omega) | exact hz _ (by omega) | exact hK3 _ (by omega))) (cwV 2 hts gX5_odds_X5_whereOf rfl rfl rfl (by decide +kernel) ⟨Nat.le_of_ble_eq_true rfl, Nat.le_of_ble_eq_true rfl⟩) hP hK [0, 1, 2] rfl rfl rfl rfl hl.1 rfl (Nat.le_of_ble_eq_true rfl) dX5_odds_174 ⟨Nat.zero_le _, Nat.zero_le _⟩ ?_
                            refine W.eq (g2 := F0 m 177 ls [.int (nI (wh (pdp P M k M) M (tn (U jb)) jn)), .int (nI (oc P M (tn (U jb)) jn jm0 k))]) rfl ?_
                            refine lv_iload_n hx hb dX5_odds_177 rfl (lv_at hl 5 rfl) ?_
                            have hwl := wh_lt (P := pdp P M k M) (tn_lt (hU jb hjb) (by omega)) jn
                            have hol := oc_le (P := P) (M := M) (u := tn (U jb)) (n := jn) (g := jm0) k
                            refine ic_ne (tgt := 185) hx hb (by omega) (by omega) dX5_odds_178 (by decide) (fun c11 => ?_) (fun c11 => ?_)
                            ·
                              refine lv_iconst (v := nI 0) hx hb dX5_odds_185 (by decide) ?_
                              refine lv_iadd hx hb dX5_odds_186 ?_
                              refine lv_tope (show (nI (oc P M (tn (U jb)) jn jm0 k)) + (nI 0) = nI ((oc P M (tn (U jb)) jn jm0 k) + 0) from nI_add _ _) ?_
                              refine lv_istore (lv' := [(5, .int (nI ((oc P M (tn (U jb)) jn jm0 k) + 0))), (7, .int (nI M)), (6, .int (nI k)), (0, .ref o), (1, .int (nI jb)), (2, .int (nI jm0)), (3, .int (nI jn)), (4, .int w)]) hx hb dX5_odds_187 hl (by decide) rfl (fun ls hl => ?_)
                              refine lv_iinc (v := nI (k + 1)) (lv' := [(6, .int (nI (k + 1))), (5, .int (nI ((oc P M (tn (U jb)) jn jm0 k) + 0))), (7, .int (nI M)), (0, .ref o), (1, .int (nI jb)), (2, .int (nI jm0)), (3, .int (nI jn)), (4, .int w)]) hx hb dX5_odds_189 hl (k := 2) rfl (show nI k + Int32.ofInt 1 = nI (k + 1) from nI_add _ 1) (by decide) rfl (fun ls hl => ?_)
                              refine lv_goto (tgt := 101) hx hb dX5_odds_192 (by decide) ?_
                              have hl12 : lv_has ls 8 [(6, .int (nI (k + 1))), (5, .int (nI (oc P M (tn (U jb)) jn jm0 (k + 1)))), (0, .ref o), (1, .int (nI jb)), (2, .int (nI jm0)), (3, .int (nI jn)), (4, .int w)] := by
                                rw [show (nI (oc P M (tn (U jb)) jn jm0 (k + 1))) = (nI ((oc P M (tn (U jb)) jn jm0 k) + 0)) from by first | rfl | simp only [oc, Nat.add_zero, iF_t c1, iF_t c2, iF_t c3, iF_t c4, iF_f (Nat.not_lt.mpr c5), iF_t c6, iF_f (Nat.not_lt.mpr c10), iF_f c11, tn_nI (show jb < 2 ^ 31 by omega), tn_nI (show jm0 < 2 ^ 31 by omega), tn_nI (show jn < 2 ^ 31 by omega)]]
                                exact (lv_sub hl [0, 1, 3, 4, 5, 6, 7] rfl)
                              have hP13 : va_P G.1 vwCl [(o, .inr (5, [.int ff, .int ftr, .ref aso, .ref asl, .ref ace, .int (nI M), .int (nI B), .ref ape, .ref aki, .ref abo, .int at_, .int rM, .int rB, .ref arp, .ref ark, .ref arb, .int fb, .int fto, .int (nI R), .ref awh, .ref awn, .ref awm, .ref awk, .ref amo, .ref amu])), (ape, aI G 25 (opF P P M (k + 1))), (abo, aI G 4 U), (amo, aI G 5 (moF P MO M M)), (amu, aI G 5 (muF P MU M M))] H := by
                                rw [show (opF P P M (k + 1)) = (pdp P M k M) from by first | rfl | simp only [oc, Nat.add_zero, iF_t c1, iF_t c2, iF_t c3, iF_t c4, iF_f (Nat.not_lt.mpr c5), iF_t c6, iF_f (Nat.not_lt.mpr c10), iF_f c11, tn_nI (show jb < 2 ^ 31 by omega), tn_nI (show jm0 < 2 ^ 31 by omega), tn_nI (show jn < 2 ^ 31 by omega)]]
                                exact hP
                              have hD13 : va_D A [(o, .inr (5, [.int ff, .int ftr, .ref aso, .ref asl, .ref ace, .int (nI M), .int (nI B), .ref ape, .ref aki, .ref abo, .int at_, .int rM, .int rB, .ref arp, .ref ark, .ref arb, .int fb, .int fto, .int (nI R), .ref awh, .ref awn, .ref awm, .ref awk, .ref amo, .ref amu])), (ape, aI G 25 (opF P P M (k + 1))), (abo, aI G 4 U), (amo, aI G 5 (moF P MO M M)), (amu, aI G 5 (muF P MU M M))] := by
                                rw [show (opF P P M (k + 1)) = (pdp P M k M) from by first | rfl | simp only [oc, Nat.add_zero, iF_t c1, iF_t c2, iF_t c3, iF_t c4, iF_f (Nat.not_lt.mpr c5), iF_t c6, iF_f (Nat.not_lt.mpr c10), iF_f c11, tn_nI (show jb < 2 ^ 31 by omega), tn_nI (show jm0 < 2 ^ 31 by omega), tn_nI (show jn < 2 ^ 31 by omega)]]
                                exact hD
                              exact ih2 (k + 1) H locs ls (by omega) (by omega) hP13 hD13 hS hl12
                            ·
                              refine lv_iconst (v := nI 1) hx hb dX5_odds_181 (by decide) ?_
                              refine lv_goto (tgt := 186) hx hb dX5_odds_182 (by decide) ?_
                              refine lv_iadd hx hb dX5_odds_186 ?_
                              refine lv_tope (show (nI (oc P M (tn (U jb)) jn jm0 k)) + (nI 1) = nI ((oc P M (tn (U jb)) jn jm0 k) + 1) from nI_add _ _) ?_
                              refine lv_istore (lv' := [(5, .int (nI ((oc P M (tn (U jb)) jn jm0 k) + 1))), (7, .int (nI M)), (6, .int (nI k)), (0, .ref o), (1, .int (nI jb)), (2, .int (nI jm0)), (3, .int (nI jn)), (4, .int w)]) hx hb dX5_odds_187 hl (by decide) rfl (fun ls hl => ?_)
                              refine lv_iinc (v := nI (k + 1)) (lv' := [(6, .int (nI (k + 1))), (5, .int (nI ((oc P M (tn (U jb)) jn jm0 k) + 1))), (7, .int (nI M)), (0, .ref o), (1, .int (nI jb)), (2, .int (nI jm0)), (3, .int (nI jn)), (4, .int w)]) hx hb dX5_odds_189 hl (k := 2) rfl (show nI k + Int32.ofInt 1 = nI (k + 1) from nI_add _ 1) (by decide) rfl (fun ls hl => ?_)
                              refine lv_goto (tgt := 101) hx hb dX5_odds_192 (by decide) ?_
                              have hl14 : lv_has ls 8 [(6, .int (nI (k + 1))), (5, .int (nI (oc P M (tn (U jb)) jn jm0 (k + 1)))), (0, .ref o), (1, .int (nI jb)), (2, .int (nI jm0)), (3, .int (nI jn)), (4, .int w)] := by
                                rw [show (nI (oc P M (tn (U jb)) jn jm0 (k + 1))) = (nI ((oc P M (tn (U jb)) jn jm0 k) + 1)) from by first | rfl | simp only [oc, Nat.add_zero, iF_t c1, iF_t c2, iF_t c3, iF_t c4, iF_f (Nat.not_lt.mpr c5), iF_t c6, iF_f (Nat.not_lt.mpr c10), iF_t c11, tn_nI (show jb < 2 ^ 31 by omega), tn_nI (show jm0 < 2 ^ 31 by omega), tn_nI (show jn < 2 ^ 31 by omega)]]
                                exact (lv_sub hl [0, 1, 3, 4, 5, 6, 7] rfl)
                              have hP15 : va_P G.1 vwCl [(o, .inr (5, [.int ff, .int ftr, .ref aso, .ref asl, .ref ace, .int (nI M), .int (nI B), .ref ape, .ref aki, .ref abo, .int at_, .int rM, .int rB, .ref arp, .ref ark, .ref arb, .int fb, .int fto, .int (nI R), .ref awh, .ref awn, .ref awm, .ref awk, .ref amo, .ref amu])), (ape, aI G 25 (opF P P M (k + 1))), (abo, aI G 4 U), (amo, aI G 5 (moF P MO M M)), (amu, aI G 5 (muF P MU M M))] H := by
                                rw [show (opF P P M (k + 1)) = (pdp P M k M) from by first | rfl | simp only [oc, Nat.add_zero, iF_t c1, iF_t c2, iF_t c3, iF_t c4, iF_f (Nat.not_lt.mpr c5), iF_t c6, iF_f (Nat.not_lt.mpr c10), iF_t c11, tn_nI (show jb < 2 ^ 31 by omega), tn_nI (show jm0 < 2 ^ 31 by omega), tn_nI (show jn < 2 ^ 31 by omega)]]
                                exact hP
                              have hD15 : va_D A [(o, .inr (5, [.int ff, .int ftr, .ref aso, .ref asl, .ref ace, .int (nI M), .int (nI B), .ref ape, .ref aki, .ref abo, .int at_, .int rM, .int rB, .ref arp, .ref ark, .ref arb, .int fb, .int fto, .int (nI R), .ref awh, .ref awn, .ref awm, .ref awk, .ref amo, .ref amu])), (ape, aI G 25 (opF P P M (k + 1))), (abo, aI G 4 U), (amo, aI G 5 (moF P MO M M)), (amu, aI G 5 (muF P MU M M))] := by
                                rw [show (opF P P M (k + 1)) = (pdp P M k M) from by first | rfl | simp only [oc, Nat.add_zero, iF_t c1, iF_t c2, iF_t c3, iF_t c4, iF_f (Nat.not_lt.mpr c5), iF_t c6, iF_f (Nat.not_lt.mpr c10), iF_t c11, tn_nI (show jb < 2 ^ 31 by omega), tn_nI (show jm0 < 2 ^ 31 by omega), tn_nI (show jn < 2 ^ 31 by omega)]]
                                exact hD
                              exact ih2 (k + 1) H locs ls (by omega) (by omega) hP15 hD15 hS hl14
                          ·
                            have hnl := nxt_lt (P := P) (show a < M by omega)
                            refine lv_aload_n hx hb dX5_odds_124 rfl (lv_at hl 3 rfl) ?_
                            refine g_get (v := .ref ape) hx hb hts ixX5_odds_X5 hown hK hP 0 rfl rfl 7 (by decide) lkX5_odds_19 rfl dX5_odds_125 ?_
                            refine lv_iload hx hb dX5_odds_128 (lv_at hl 0 rfl) ?_
                            refine lv_aload_n hx hb dX5_odds_130 rfl (lv_at hl 3 rfl) ?_
                            refine g_get (v := .ref amo) hx hb hts ixX5_odds_X5 hown hK hP 0 rfl rfl 23 (by decide) lkX5_odds_49 rfl dX5_odds_131 ?_
                            refine lv_iload hx hb dX5_odds_134 (lv_at hl 0 rfl) ?_
                            refine n_ald hx hb hK hP 3 rfl (k := a) (by omega) (by decide) dX5_odds_136 ?_
                            refine lv_tope (show (moF P MO M M) a = nI (nxt P M a) from moF_at (by omega)) ?_
                            refine rdS (As := [.int (nI a), .int (nI (nxt P M a))]) (rest := [.ref ape]) hE (kX5_spot l G a (nxt P M a) ) (va_cwS 2 hts gX5_odds_X5_spot rfl rfl rfl (by decide +kernel) ⟨Nat.le_of_ble_eq_true rfl, Nat.le_of_ble_eq_true rfl⟩) hP hK [] rfl rfl hl.1 rfl (Nat.le_of_ble_eq_true rfl) dX5_odds_137 ⟨Nat.zero_le _, Nat.zero_le _⟩ ?_
                            refine W.eq (g2 := F0 m 140 ls [.int (nI (a * 5 + (nxt P M a))), .ref ape]) rfl ?_
                            refine lv_iload hx hb dX5_odds_140 (lv_at hl 1 rfl) ?_
                            refine lv_iload hx hb dX5_odds_142 (lv_at hl 0 rfl) ?_
                            refine lv_ishr hx hb dX5_odds_144 ?_
                            refine lv_iconst (v := nI 1) hx hb dX5_odds_145 (by decide) ?_
                            refine lv_iand hx hb dX5_odds_146 ?_
                            refine lv_iconst (v := nI 1) hx hb dX5_odds_147 (by decide) ?_
                            refine lv_icmp_ne (tgt := 155) hx hb dX5_odds_148 (by decide) (fun c16 => ?_) (fun c16 => ?_)
                            ·
                              refine lv_aload_n hx hb dX5_odds_155 rfl (lv_at hl 3 rfl) ?_
                              refine g_get (v := .ref amu) hx hb hts ixX5_odds_X5 hown hK hP 0 rfl rfl 24 (by decide) lkX5_odds_52 rfl dX5_odds_156 ?_
                              refine lv_iload hx hb dX5_odds_159 (lv_at hl 0 rfl) ?_
                              refine n_ald hx hb hK hP 4 rfl (k := a) (by omega) (by decide) dX5_odds_161 ?_
                              refine lv_tope (show (muF P MU M M) a = P (a * 5 + nxt P M a) from muF_at (by omega)) ?_
                              refine n_ast hx hb hK hP hD hS 1 rfl (k := a * 5 + (nxt P M a)) (by omega) (by decide) dX5_odds_162 (fun H locs hP hD hS => ?_)
                              have hP : va_P G.1 vwCl [(o, .inr (5, [.int ff, .int ftr, .ref aso, .ref asl, .ref ace, .int (nI M), .int (nI B), .ref ape, .ref aki, .ref abo, .int at_, .int rM, .int rB, .ref arp, .ref ark, .ref arb, .int fb, .int fto, .int (nI R), .ref awh, .ref awn, .ref awm, .ref awk, .ref amo, .ref amu])), (ape, aI G 25 (upd (ipF P (opF P P M k) M k a) (a * 5 + (nxt P M a)) (P (a * 5 + nxt P M a)))), (abo, aI G 4 U), (amo, aI G 5 (moF P MO M M)), (amu, aI G 5 (muF P MU M M))] H := hP
                              have hD : va_D A [(o, .inr (5, [.int ff, .int ftr, .ref aso, .ref asl, .ref ace, .int (nI M), .int (nI B), .ref ape, .ref aki, .ref abo, .int at_, .int rM, .int rB, .ref arp, .ref ark, .ref arb, .int fb, .int fto, .int (nI R), .ref awh, .ref awn, .ref awm, .ref awk, .ref amo, .ref amu])), (ape, aI G 25 (upd (ipF P (opF P P M k) M k a) (a * 5 + (nxt P M a)) (P (a * 5 + nxt P M a)))), (abo, aI G 4 U), (amo, aI G 5 (moF P MO M M)), (amu, aI G 5 (muF P MU M M))] := hD
                              refine lv_iinc (v := nI (a + 1)) (lv' := [(7, .int (nI (a + 1))), (6, .int (nI k)), (5, .int (nI (oc P M (tn (U jb)) jn jm0 k))), (0, .ref o), (1, .int (nI jb)), (2, .int (nI jm0)), (3, .int (nI jn)), (4, .int w)]) hx hb dX5_odds_163 hl (k := 0) rfl (show nI a + Int32.ofInt 1 = nI (a + 1) from nI_add _ 1) (by decide) rfl (fun ls hl => ?_)
                              refine lv_goto (tgt := 115) hx hb dX5_odds_166 (by decide) ?_
                              have hP17 : va_P G.1 vwCl [(o, .inr (5, [.int ff, .int ftr, .ref aso, .ref asl, .ref ace, .int (nI M), .int (nI B), .ref ape, .ref aki, .ref abo, .int at_, .int rM, .int rB, .ref arp, .ref ark, .ref arb, .int fb, .int fto, .int (nI R), .ref awh, .ref awn, .ref awm, .ref awk, .ref amo, .ref amu])), (ape, aI G 25 (ipF P (opF P P M k) M k (a + 1))), (abo, aI G 4 U), (amo, aI G 5 (moF P MO M M)), (amu, aI G 5 (muF P MU M M))] H := by
                                rw [show (ipF P (opF P P M k) M k (a + 1)) = (upd (ipF P (opF P P M k) M k a) (a * 5 + (nxt P M a)) (P (a * 5 + nxt P M a))) from by first | rfl | simp only [ipF, iF_t c1, iF_t c2, iF_t c3, iF_t c4, iF_f (Nat.not_lt.mpr c5), iF_t c6, iF_t c10, iF_f c16, iF_f (show ¬ ((nI k) >>> (nI a &&& 31)) &&& (nI 1) = 1 from c16), iF_f (show ¬ pb k a from c16), tn_nI (show jb < 2 ^ 31 by omega), tn_nI (show jm0 < 2 ^ 31 by omega), tn_nI (show jn < 2 ^ 31 by omega)]]
                                exact hP
                              have hD17 : va_D A [(o, .inr (5, [.int ff, .int ftr, .ref aso, .ref asl, .ref ace, .int (nI M), .int (nI B), .ref ape, .ref aki, .ref abo, .int at_, .int rM, .int rB, .ref arp, .ref ark, .ref arb, .int fb, .int fto, .int (nI R), .ref awh, .ref awn, .ref awm, .ref awk, .ref amo, .ref amu])), (ape, aI G 25 (ipF P (opF P P M k) M k (a + 1))), (abo, aI G 4 U), (amo, aI G 5 (moF P MO M M)), (amu, aI G 5 (muF P MU M M))] := by
                                rw [show (ipF P (opF P P M k) M k (a + 1)) = (upd (ipF P (opF P P M k) M k a) (a * 5 + (nxt P M a)) (P (a * 5 + nxt P M a))) from by first | rfl | simp only [ipF, iF_t c1, iF_t c2, iF_t c3, iF_t c4, iF_f (Nat.not_lt.mpr c5), iF_t c6, iF_t c10, iF_f c16, iF_f (show ¬ ((nI k) >>> (nI a &&& 31)) &&& (nI 1) = 1 from c16), iF_f (show ¬ pb k a from c16), tn_nI (show jb < 2 ^ 31 by omega), tn_nI (show jm0 < 2 ^ 31 by omega), tn_nI (show jn < 2 ^ 31 by omega)]]
                                exact hD
                              exact ih4 (a + 1) H locs ls (by omega) (by omega) hP17 hD17 hS (lv_sub hl [0, 1, 2, 3, 4, 5, 6, 7] rfl)
                            ·
                              refine lv_iconst (v := nI 0) hx hb dX5_odds_151 (by decide) ?_
                              refine lv_goto (tgt := 162) hx hb dX5_odds_152 (by decide) ?_
                              refine n_ast hx hb hK hP hD hS 1 rfl (k := a * 5 + (nxt P M a)) (by omega) (by decide) dX5_odds_162 (fun H locs hP hD hS => ?_)
                              have hP : va_P G.1 vwCl [(o, .inr (5, [.int ff, .int ftr, .ref aso, .ref asl, .ref ace, .int (nI M), .int (nI B), .ref ape, .ref aki, .ref abo, .int at_, .int rM, .int rB, .ref arp, .ref ark, .ref arb, .int fb, .int fto, .int (nI R), .ref awh, .ref awn, .ref awm, .ref awk, .ref amo, .ref amu])), (ape, aI G 25 (upd (ipF P (opF P P M k) M k a) (a * 5 + (nxt P M a)) (nI 0))), (abo, aI G 4 U), (amo, aI G 5 (moF P MO M M)), (amu, aI G 5 (muF P MU M M))] H := hP
                              have hD : va_D A [(o, .inr (5, [.int ff, .int ftr, .ref aso, .ref asl, .ref ace, .int (nI M), .int (nI B), .ref ape, .ref aki, .ref abo, .int at_, .int rM, .int rB, .ref arp, .ref ark, .ref arb, .int fb, .int fto, .int (nI R), .ref awh, .ref awn, .ref awm, .ref awk, .ref amo, .ref amu])), (ape, aI G 25 (upd (ipF P (opF P P M k) M k a) (a * 5 + (nxt P M a)) (nI 0))), (abo, aI G 4 U), (amo, aI G 5 (moF P MO M M)), (amu, aI G 5 (muF P MU M M))] := hD
                              refine lv_iinc (v := nI (a + 1)) (lv' := [(7, .int (nI (a + 1))), (6, .int (nI k)), (5, .int (nI (oc P M (tn (U jb)) jn jm0 k))), (0, .ref o), (1, .int (nI jb)), (2, .int (nI jm0)), (3, .int (nI jn)), (4, .int w)]) hx hb dX5_odds_163 hl (k := 0) rfl (show nI a + Int32.ofInt 1 = nI (a + 1) from nI_add _ 1) (by decide) rfl (fun ls hl => ?_)
                              refine lv_goto (tgt := 115) hx hb dX5_odds_166 (by decide) ?_
                              have hP18 : va_P G.1 vwCl [(o, .inr (5, [.int ff, .int ftr, .ref aso, .ref asl, .ref ace, .int (nI M), .int (nI B), .ref ape, .ref aki, .ref abo, .int at_, .int rM, .int rB, .ref arp, .ref ark, .ref arb, .int fb, .int fto, .int (nI R), .ref awh, .ref awn, .ref awm, .ref awk, .ref amo, .ref amu])), (ape, aI G 25 (ipF P (opF P P M k) M k (a + 1))), (abo, aI G 4 U), (amo, aI G 5 (moF P MO M M)), (amu, aI G 5 (muF P MU M M))] H := by
                                rw [show (ipF P (opF P P M k) M k (a + 1)) = (upd (ipF P (opF P P M k) M k a) (a * 5 + (nxt P M a)) (nI 0)) from by first | rfl | simp only [ipF, iF_t c1, iF_t c2, iF_t c3, iF_t c4, iF_f (Nat.not_lt.mpr c5), iF_t c6, iF_t c10, iF_t c16, iF_t (show ((nI k) >>> (nI a &&& 31)) &&& (nI 1) = 1 from c16), iF_t (show pb k a from c16), tn_nI (show jb < 2 ^ 31 by omega), tn_nI (show jm0 < 2 ^ 31 by omega), tn_nI (show jn < 2 ^ 31 by omega)]]
                                exact hP
                              have hD18 : va_D A [(o, .inr (5, [.int ff, .int ftr, .ref aso, .ref asl, .ref ace, .int (nI M), .int (nI B), .ref ape, .ref aki, .ref abo, .int at_, .int rM, .int rB, .ref arp, .ref ark, .ref arb, .int fb, .int fto, .int (nI R), .ref awh, .ref awn, .ref awm, .ref awk, .ref amo, .ref amu])), (ape, aI G 25 (ipF P (opF P P M k) M k (a + 1))), (abo, aI G 4 U), (amo, aI G 5 (moF P MO M M)), (amu, aI G 5 (muF P MU M M))] := by
                                rw [show (ipF P (opF P P M k) M k (a + 1)) = (upd (ipF P (opF P P M k) M k a) (a * 5 + (nxt P M a)) (nI 0)) from by first | rfl | simp only [ipF, iF_t c1, iF_t c2, iF_t c3, iF_t c4, iF_f (Nat.not_lt.mpr c5), iF_t c6, iF_t c10, iF_t c16, iF_t (show ((nI k) >>> (nI a &&& 31)) &&& (nI 1) = 1 from c16), iF_t (show pb k a from c16), tn_nI (show jb < 2 ^ 31 by omega), tn_nI (show jm0 < 2 ^ 31 by omega), tn_nI (show jn < 2 ^ 31 by omega)]]
                                exact hD
                              exact ih4 (a + 1) H locs ls (by omega) (by omega) hP18 hD18 hS (lv_sub hl [0, 1, 2, 3, 4, 5, 6, 7] rfl)
                      have hP19 : va_P G.1 vwCl [(o, .inr (5, [.int ff, .int ftr, .ref aso, .ref asl, .ref ace, .int (nI M), .int (nI B), .ref ape, .ref aki, .ref abo, .int at_, .int rM, .int rB, .ref arp, .ref ark, .ref arb, .int fb, .int fto, .int (nI R), .ref awh, .ref awn, .ref awm, .ref awk, .ref amo, .ref amu])), (ape, aI G 25 (ipF P (opF P P M k) M k 0)), (abo, aI G 4 U), (amo, aI G 5 (moF P MO M M)), (amu, aI G 5 (muF P MU M M))] H := by
                        rw [show (ipF P (opF P P M k) M k 0) = (opF P P M k) from by first | rfl | simp only [ipF, iF_t c1, iF_t c2, iF_t c3, iF_t c4, iF_f (Nat.not_lt.mpr c5), iF_t c6, tn_nI (show jb < 2 ^ 31 by omega), tn_nI (show jm0 < 2 ^ 31 by omega), tn_nI (show jn < 2 ^ 31 by omega)]]
                        exact hP
                      have hD19 : va_D A [(o, .inr (5, [.int ff, .int ftr, .ref aso, .ref asl, .ref ace, .int (nI M), .int (nI B), .ref ape, .ref aki, .ref abo, .int at_, .int rM, .int rB, .ref arp, .ref ark, .ref arb, .int fb, .int fto, .int (nI R), .ref awh, .ref awn, .ref awm, .ref awk, .ref amo, .ref amu])), (ape, aI G 25 (ipF P (opF P P M k) M k 0)), (abo, aI G 4 U), (amo, aI G 5 (moF P MO M M)), (amu, aI G 5 (muF P MU M M))] := by
                        rw [show (ipF P (opF P P M k) M k 0) = (opF P P M k) from by first | rfl | simp only [ipF, iF_t c1, iF_t c2, iF_t c3, iF_t c4, iF_f (Nat.not_lt.mpr c5), iF_t c6, tn_nI (show jb < 2 ^ 31 by omega), tn_nI (show jm0 < 2 ^ 31 by omega), tn_nI (show jn < 2 ^ 31 by omega)]]
                        exact hD
                      exact loop4 (M + 1) 0 H locs ls (by omega) (by omega) hP19 hD19 hS (lv_sub hl [0, 1, 2, 3, 4, 5, 6, 7] rfl)
                have hl20 : lv_has ls 8 [(6, .int (nI 0)), (5, .int (nI (oc P M (tn (U jb)) jn jm0 0))), (0, .ref o), (1, .int (nI jb)), (2, .int (nI jm0)), (3, .int (nI jn)), (4, .int w)] := by
                  rw [show (nI (oc P M (tn (U jb)) jn jm0 0)) = (nI 0) from by first | rfl | simp only [oc, Nat.add_zero, iF_t c1, iF_t c2, iF_t c3, iF_t c4, iF_f (Nat.not_lt.mpr c5), tn_nI (show jb < 2 ^ 31 by omega), tn_nI (show jm0 < 2 ^ 31 by omega), tn_nI (show jn < 2 ^ 31 by omega)]]
                  exact (lv_sub hl [0, 1, 2, 3, 4, 5, 6] rfl)
                have hP21 : va_P G.1 vwCl [(o, .inr (5, [.int ff, .int ftr, .ref aso, .ref asl, .ref ace, .int (nI M), .int (nI B), .ref ape, .ref aki, .ref abo, .int at_, .int rM, .int rB, .ref arp, .ref ark, .ref arb, .int fb, .int fto, .int (nI R), .ref awh, .ref awn, .ref awm, .ref awk, .ref amo, .ref amu])), (ape, aI G 25 (opF P P M 0)), (abo, aI G 4 U), (amo, aI G 5 (moF P MO M M)), (amu, aI G 5 (muF P MU M M))] H := by
                  rw [show (opF P P M 0) = (P) from by first | rfl | simp only [oc, Nat.add_zero, iF_t c1, iF_t c2, iF_t c3, iF_t c4, iF_f (Nat.not_lt.mpr c5), tn_nI (show jb < 2 ^ 31 by omega), tn_nI (show jm0 < 2 ^ 31 by omega), tn_nI (show jn < 2 ^ 31 by omega)]]
                  exact hP
                have hD21 : va_D A [(o, .inr (5, [.int ff, .int ftr, .ref aso, .ref asl, .ref ace, .int (nI M), .int (nI B), .ref ape, .ref aki, .ref abo, .int at_, .int rM, .int rB, .ref arp, .ref ark, .ref arb, .int fb, .int fto, .int (nI R), .ref awh, .ref awn, .ref awm, .ref awk, .ref amo, .ref amu])), (ape, aI G 25 (opF P P M 0)), (abo, aI G 4 U), (amo, aI G 5 (moF P MO M M)), (amu, aI G 5 (muF P MU M M))] := by
                  rw [show (opF P P M 0) = (P) from by first | rfl | simp only [oc, Nat.add_zero, iF_t c1, iF_t c2, iF_t c3, iF_t c4, iF_f (Nat.not_lt.mpr c5), tn_nI (show jb < 2 ^ 31 by omega), tn_nI (show jm0 < 2 ^ 31 by omega), tn_nI (show jn < 2 ^ 31 by omega)]]
                  exact hD
                exact loop2 ((2 ^ M) + 1) 0 H locs ls (by omega) (by omega) hP21 hD21 hS hl20
              ·
                have hnl := nxt_lt (P := P) (show a < M by omega)
                refine lv_aload_n hx hb dX5_odds_52 rfl (lv_at hl 1 rfl) ?_
                refine g_get (v := .ref amo) hx hb hts ixX5_odds_X5 hown hK hP 0 rfl rfl 23 (by decide) lkX5_odds_49 rfl dX5_odds_53 ?_
                refine lv_iload hx hb dX5_odds_56 (lv_at hl 0 rfl) ?_
                refine lv_aload_n hx hb dX5_odds_58 rfl (lv_at hl 1 rfl) ?_
                refine lv_iload hx hb dX5_odds_59 (lv_at hl 0 rfl) ?_
                refine rdV (As := [.int (nI a)]) (rest := [.int (nI a), .ref amo]) (ci := 5) (q0 := 0) hE (kX5_nextOf l G o ff ftr aso asl ace M B ape aki abo at_ rM rB arp ark arb fb fto R awh awn awm awk amo amu P a hM c5) (cwV 1 hts gX5_odds_X5_nextOf rfl rfl rfl (by decide +kernel) ⟨Nat.le_of_ble_eq_true rfl, Nat.le_of_ble_eq_true rfl⟩) hP hK [0, 1] rfl rfl rfl rfl hl.1 rfl (Nat.le_of_ble_eq_true rfl) dX5_odds_61 ⟨Nat.zero_le _, Nat.zero_le _⟩ ?_
                refine W.eq (g2 := F0 m 64 ls [.int (nI (nxt P M a)), .int (nI a), .ref amo]) rfl ?_
                refine n_ast hx hb hK hP hD hS 3 rfl (k := a) (by omega) (by decide) dX5_odds_64 (fun H locs hP hD hS => ?_)
                have hP : va_P G.1 vwCl [(o, .inr (5, [.int ff, .int ftr, .ref aso, .ref asl, .ref ace, .int (nI M), .int (nI B), .ref ape, .ref aki, .ref abo, .int at_, .int rM, .int rB, .ref arp, .ref ark, .ref arb, .int fb, .int fto, .int (nI R), .ref awh, .ref awn, .ref awm, .ref awk, .ref amo, .ref amu])), (ape, aI G 25 P), (abo, aI G 4 U), (amo, aI G 5 (upd (moF P MO M a) a (nI (nxt P M a)))), (amu, aI G 5 (muF P MU M a))] H := hP
                have hD : va_D A [(o, .inr (5, [.int ff, .int ftr, .ref aso, .ref asl, .ref ace, .int (nI M), .int (nI B), .ref ape, .ref aki, .ref abo, .int at_, .int rM, .int rB, .ref arp, .ref ark, .ref arb, .int fb, .int fto, .int (nI R), .ref awh, .ref awn, .ref awm, .ref awk, .ref amo, .ref amu])), (ape, aI G 25 P), (abo, aI G 4 U), (amo, aI G 5 (upd (moF P MO M a) a (nI (nxt P M a)))), (amu, aI G 5 (muF P MU M a))] := hD
                refine lv_aload_n hx hb dX5_odds_65 rfl (lv_at hl 1 rfl) ?_
                refine g_get (v := .ref amu) hx hb hts ixX5_odds_X5 hown hK hP 0 rfl rfl 24 (by decide) lkX5_odds_52 rfl dX5_odds_66 ?_
                refine lv_iload hx hb dX5_odds_69 (lv_at hl 0 rfl) ?_
                refine lv_aload_n hx hb dX5_odds_71 rfl (lv_at hl 1 rfl) ?_
                refine g_get (v := .ref ape) hx hb hts ixX5_odds_X5 hown hK hP 0 rfl rfl 7 (by decide) lkX5_odds_19 rfl dX5_odds_72 ?_
                refine lv_iload hx hb dX5_odds_75 (lv_at hl 0 rfl) ?_
                refine lv_aload_n hx hb dX5_odds_77 rfl (lv_at hl 1 rfl) ?_
                refine g_get (v := .ref amo) hx hb hts ixX5_odds_X5 hown hK hP 0 rfl rfl 23 (by decide) lkX5_odds_49 rfl dX5_odds_78 ?_
                refine lv_iload hx hb dX5_odds_81 (lv_at hl 0 rfl) ?_
                refine n_ald hx hb hK hP 3 rfl (k := a) (by omega) (by decide) dX5_odds_83 ?_
                refine lv_tope (show (upd (moF P MO M a) a (nI (nxt P M a))) a = nI (nxt P M a) from upS _ _ _) ?_
                refine rdS (As := [.int (nI a), .int (nI (nxt P M a))]) (rest := [.ref ape, .int (nI a), .ref amu]) hE (kX5_spot l G a (nxt P M a) ) (va_cwS 2 hts gX5_odds_X5_spot rfl rfl rfl (by decide +kernel) ⟨Nat.le_of_ble_eq_true rfl, Nat.le_of_ble_eq_true rfl⟩) hP hK [] rfl rfl hl.1 rfl (Nat.le_of_ble_eq_true rfl) dX5_odds_84 ⟨Nat.zero_le _, Nat.zero_le _⟩ ?_
                refine W.eq (g2 := F0 m 87 ls [.int (nI (a * 5 + (nxt P M a))), .ref ape, .int (nI a), .ref amu]) rfl ?_
                refine n_ald hx hb hK hP 1 rfl (k := a * 5 + (nxt P M a)) (by omega) (by decide) dX5_odds_87 ?_
                refine n_ast hx hb hK hP hD hS 4 rfl (k := a) (by omega) (by decide) dX5_odds_88 (fun H locs hP hD hS => ?_)
                have hP : va_P G.1 vwCl [(o, .inr (5, [.int ff, .int ftr, .ref aso, .ref asl, .ref ace, .int (nI M), .int (nI B), .ref ape, .ref aki, .ref abo, .int at_, .int rM, .int rB, .ref arp, .ref ark, .ref arb, .int fb, .int fto, .int (nI R), .ref awh, .ref awn, .ref awm, .ref awk, .ref amo, .ref amu])), (ape, aI G 25 P), (abo, aI G 4 U), (amo, aI G 5 (upd (moF P MO M a) a (nI (nxt P M a)))), (amu, aI G 5 (upd (muF P MU M a) a (P (a * 5 + (nxt P M a)))))] H := hP
                have hD : va_D A [(o, .inr (5, [.int ff, .int ftr, .ref aso, .ref asl, .ref ace, .int (nI M), .int (nI B), .ref ape, .ref aki, .ref abo, .int at_, .int rM, .int rB, .ref arp, .ref ark, .ref arb, .int fb, .int fto, .int (nI R), .ref awh, .ref awn, .ref awm, .ref awk, .ref amo, .ref amu])), (ape, aI G 25 P), (abo, aI G 4 U), (amo, aI G 5 (upd (moF P MO M a) a (nI (nxt P M a)))), (amu, aI G 5 (upd (muF P MU M a) a (P (a * 5 + (nxt P M a)))))] := hD
                refine lv_iinc (v := nI (a + 1)) (lv' := [(5, .int (nI (a + 1))), (0, .ref o), (1, .int (nI jb)), (2, .int (nI jm0)), (3, .int (nI jn)), (4, .int w)]) hx hb dX5_odds_89 hl (k := 0) rfl (show nI a + Int32.ofInt 1 = nI (a + 1) from nI_add _ 1) (by decide) rfl (fun ls hl => ?_)
                refine lv_goto (tgt := 43) hx hb dX5_odds_92 (by decide) ?_
                have hP22 : va_P G.1 vwCl [(o, .inr (5, [.int ff, .int ftr, .ref aso, .ref asl, .ref ace, .int (nI M), .int (nI B), .ref ape, .ref aki, .ref abo, .int at_, .int rM, .int rB, .ref arp, .ref ark, .ref arb, .int fb, .int fto, .int (nI R), .ref awh, .ref awn, .ref awm, .ref awk, .ref amo, .ref amu])), (ape, aI G 25 P), (abo, aI G 4 U), (amo, aI G 5 (moF P MO M (a + 1))), (amu, aI G 5 (muF P MU M (a + 1)))] H := by
                  rw [show (moF P MO M (a + 1)) = (upd (moF P MO M a) a (nI (nxt P M a))) from by first | rfl | simp only [moF, muF, iF_t c1, iF_t c2, iF_t c3, iF_t c4, iF_t c5, tn_nI (show jb < 2 ^ 31 by omega), tn_nI (show jm0 < 2 ^ 31 by omega), tn_nI (show jn < 2 ^ 31 by omega)]]
                  rw [show (muF P MU M (a + 1)) = (upd (muF P MU M a) a (P (a * 5 + (nxt P M a)))) from by first | rfl | simp only [moF, muF, iF_t c1, iF_t c2, iF_t c3, iF_t c4, iF_t c5, tn_nI (show jb < 2 ^ 31 by omega), tn_nI (show jm0 < 2 ^ 31 by omega), tn_nI (show jn < 2 ^ 31 by omega)]]
                  exact hP
                have hD22 : va_D A [(o, .inr (5, [.int ff, .int ftr, .ref aso, .ref asl, .ref ace, .int (nI M), .int (nI B), .ref ape, .ref aki, .ref abo, .int at_, .int rM, .int rB, .ref arp, .ref ark, .ref arb, .int fb, .int fto, .int (nI R), .ref awh, .ref awn, .ref awm, .ref awk, .ref amo, .ref amu])), (ape, aI G 25 P), (abo, aI G 4 U), (amo, aI G 5 (moF P MO M (a + 1))), (amu, aI G 5 (muF P MU M (a + 1)))] := by
                  rw [show (moF P MO M (a + 1)) = (upd (moF P MO M a) a (nI (nxt P M a))) from by first | rfl | simp only [moF, muF, iF_t c1, iF_t c2, iF_t c3, iF_t c4, iF_t c5, tn_nI (show jb < 2 ^ 31 by omega), tn_nI (show jm0 < 2 ^ 31 by omega), tn_nI (show jn < 2 ^ 31 by omega)]]
                  rw [show (muF P MU M (a + 1)) = (upd (muF P MU M a) a (P (a * 5 + (nxt P M a)))) from by first | rfl | simp only [moF, muF, iF_t c1, iF_t c2, iF_t c3, iF_t c4, iF_t c5, tn_nI (show jb < 2 ^ 31 by omega), tn_nI (show jm0 < 2 ^ 31 by omega), tn_nI (show jn < 2 ^ 31 by omega)]]
                  exact hD
                exact ih1 (a + 1) H locs ls (by omega) (by omega) hP22 hD22 hS (lv_sub hl [0, 1, 2, 3, 4, 5] rfl)
          have hP23 : va_P G.1 vwCl [(o, .inr (5, [.int ff, .int ftr, .ref aso, .ref asl, .ref ace, .int (nI M), .int (nI B), .ref ape, .ref aki, .ref abo, .int at_, .int rM, .int rB, .ref arp, .ref ark, .ref arb, .int fb, .int fto, .int (nI R), .ref awh, .ref awn, .ref awm, .ref awk, .ref amo, .ref amu])), (ape, aI G 25 P), (abo, aI G 4 U), (amo, aI G 5 (moF P MO M 0)), (amu, aI G 5 (muF P MU M 0))] s.heap := by
            rw [show (moF P MO M 0) = (MO) from by first | rfl | simp only [moF, muF, iF_t c1, iF_t c2, iF_t c3, iF_t c4, tn_nI (show jb < 2 ^ 31 by omega), tn_nI (show jm0 < 2 ^ 31 by omega), tn_nI (show jn < 2 ^ 31 by omega)]]
            rw [show (muF P MU M 0) = (MU) from by first | rfl | simp only [moF, muF, iF_t c1, iF_t c2, iF_t c3, iF_t c4, tn_nI (show jb < 2 ^ 31 by omega), tn_nI (show jm0 < 2 ^ 31 by omega), tn_nI (show jn < 2 ^ 31 by omega)]]
            exact hP
          have hD23 : va_D A [(o, .inr (5, [.int ff, .int ftr, .ref aso, .ref asl, .ref ace, .int (nI M), .int (nI B), .ref ape, .ref aki, .ref abo, .int at_, .int rM, .int rB, .ref arp, .ref ark, .ref arb, .int fb, .int fto, .int (nI R), .ref awh, .ref awn, .ref awm, .ref awk, .ref amo, .ref amu])), (ape, aI G 25 P), (abo, aI G 4 U), (amo, aI G 5 (moF P MO M 0)), (amu, aI G 5 (muF P MU M 0))] := by
            rw [show (moF P MO M 0) = (MO) from by first | rfl | simp only [moF, muF, iF_t c1, iF_t c2, iF_t c3, iF_t c4, tn_nI (show jb < 2 ^ 31 by omega), tn_nI (show jm0 < 2 ^ 31 by omega), tn_nI (show jn < 2 ^ 31 by omega)]]
            rw [show (muF P MU M 0) = (MU) from by first | rfl | simp only [moF, muF, iF_t c1, iF_t c2, iF_t c3, iF_t c4, tn_nI (show jb < 2 ^ 31 by omega), tn_nI (show jm0 < 2 ^ 31 by omega), tn_nI (show jn < 2 ^ 31 by omega)]]
            exact hD
          exact loop1 (M + 1) 0 s.heap [] ls (by omega) (by omega) hP23 hD23 hS (lv_sub hl [0, 1, 2, 3, 4, 5] rfl)
        ·
          refine lv_ldc2 (v := (-9223372036854775808)) hx hb hown (hts (.constantLong RX5 59 (-9223372036854775808)) (List.mem_of_getElem? (i := 1) rfl)) dX5_odds_36 ?_
          exact hret _ _ _ _ _ (by first | with_reducible rfl | (simp only [s_odds, odv, odG, iF_t c1, iF_t c2, iF_t c3, iF_f c4, tn_nI (show jb < 2 ^ 31 by omega), tn_nI (show jm0 < 2 ^ 31 by omega), tn_nI (show jn < 2 ^ 31 by omega)]; done) | contradiction) (by first | with_reducible exact hP | (simp only [s_odds, odv, odG, iF_t c1, iF_t c2, iF_t c3, iF_f c4, tn_nI (show jb < 2 ^ 31 by omega), tn_nI (show jm0 < 2 ^ 31 by omega), tn_nI (show jn < 2 ^ 31 by omega)]; with_reducible exact hP) | contradiction | (simp only [s_odds, odv, odG, iF_t c1, iF_t c2, iF_t c3, iF_f c4, tn_nI (show jb < 2 ^ 31 by omega), tn_nI (show jm0 < 2 ^ 31 by omega), tn_nI (show jn < 2 ^ 31 by omega)]; exact hP) | exact hP) hS dX5_odds_39
