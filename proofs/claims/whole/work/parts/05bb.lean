theorem ixX5_walk_X5 : ∀ w ∈ wsX50, w ∈ wsX5_walk := fun _ h => List.mem_cons_of_mem _ (List.mem_append_right _ h)
theorem lkX5_walk_55 : Cond.fieldLink RX5 55 (TX5 0).1 (TX5 0).2.1 (TX5 0).2.2.1 ∈ wsX5_walk := List.mem_of_getElem? (i := 1) rfl
theorem lkX5_walk_25 : Cond.fieldLink RX5 25 (TX5 9).1 (TX5 9).2.1 (TX5 9).2.2.1 ∈ wsX5_walk := List.mem_of_getElem? (i := 3) rfl
theorem lkX5_walk_16 : Cond.fieldLink RX5 16 (TX5 4).1 (TX5 4).2.1 (TX5 4).2.2.1 ∈ wsX5_walk := List.mem_of_getElem? (i := 2) rfl
set_option maxHeartbeats 4000000 in
set_option maxRecDepth 100000 in
theorem kX5_walk (l : Launch) (G : Gl) (o : Nat) (ff : Int32) (ftr : Int32) (aso : Nat) (asl : Nat) (ace : Nat) (M : Nat) (B : Nat) (ape : Nat) (aki : Nat) (abo : Nat) (at_ : Int32) (rM : Int32) (rB : Int32) (arp : Nat) (ark : Nat) (arb : Nat) (fb : Int32) (fto : Int32) (R : Nat) (awh : Nat) (awn : Nat) (awm : Nat) (awk : Nat) (amo : Nat) (amu : Nat) (SO : Nat → Int32) (SL : Nat → Int32) (CE : Nat → Int32) (P : Nat → Int32) (U : Nat → Int32) (L : Nat) (b : Int32) (k : Int32) (lane : Int32) (i : Int32) (n : Int32) (hM : M ≤ 5) (hB : B ≤ 4) (hU : ∀ b, b < B → vp_in (U b) M) (hlk : ∀ j, j < 4 → k = nI j → SL j = nI L) (hL : L ≤ 60) : Wt l G yX5_walk wsX5_walk ({ frames := 2, cells := 0, slots := 0, locals := 44 } : Room) [.ref o, .int b, .int k, .int lane, .int i, .int n] [(o, .inr (5, [.int ff, .int ftr, .ref aso, .ref asl, .ref ace, .int (nI M), .int (nI B), .ref ape, .ref aki, .ref abo, .int at_, .int rM, .int rB, .ref arp, .ref ark, .ref arb, .int fb, .int fto, .int (nI R), .ref awh, .ref awn, .ref awm, .ref awk, .ref amo, .ref amu])), (ape, aI G 25 P), (abo, aI G 4 U), (aso, aI G 4 SO), (asl, aI G 4 SL), (ace, aI G 240 CE)] [(o, .inr (5, [.int (f_walk B (ft (-9) (SO (tn k)) L lane i n) b k lane n), .int ftr, .ref aso, .ref asl, .ref ace, .int (nI M), .int (nI B), .ref ape, .ref aki, .ref abo, .int at_, .int rM, .int rB, .ref arp, .ref ark, .ref arb, .int fb, .int fto, .int (nI R), .ref awh, .ref awn, .ref awm, .ref awk, .ref amo, .ref amu])), (ape, aI G 25 P), (abo, aI G 4 U), (aso, aI G 4 SO), (asl, aI G 4 SL), (ace, aI G 240 CE)] (some (.int (s_walk B M P U (fun t => CE (60 * tn k + tn i + t)) (ft (-9) (SO (tn k)) L lane i n) b k lane n))) := by
  refine Wt.ofI (cc := cX5_walk) (maxL := 10) (by decide) rfl (Nat.le_of_ble_eq_true rfl) ?_
  intro p e s m below meth c Q A ls hE hP hK hD hS hl hret
  obtain ⟨hx, hb, hml, hown, hts⟩ := id hE
  have hl : lv_has ls 10 [(0, .ref o), (1, .int b), (2, .int k), (3, .int lane), (4, .int i), (5, .int n)] := hl
  refine lv_aload_n hx hb dX5_walk_0 rfl (lv_at hl 0 rfl) ?_
  refine lv_iconst (v := nI 0) hx hb dX5_walk_1 (by decide) ?_
  refine g_put (v := (nI 0)) hx hb hts ixX5_walk_X5 tyX5 tyX5_ok nmX5 hown hK hP hD hS 0 rfl rfl 0 (by decide) lkX5_walk_55 rfl rfl (Nat.le_of_ble_eq_true rfl) dX5_walk_2 (fun H locs hP hD hS => ?_)
  have hP : va_P G.1 vwCl [(o, .inr (5, [.int (nI 0), .int ftr, .ref aso, .ref asl, .ref ace, .int (nI M), .int (nI B), .ref ape, .ref aki, .ref abo, .int at_, .int rM, .int rB, .ref arp, .ref ark, .ref arb, .int fb, .int fto, .int (nI R), .ref awh, .ref awn, .ref awm, .ref awk, .ref amo, .ref amu])), (ape, aI G 25 P), (abo, aI G 4 U), (aso, aI G 4 SO), (asl, aI G 4 SL), (ace, aI G 240 CE)] H := hP
  have hD : va_D A [(o, .inr (5, [.int (nI 0), .int ftr, .ref aso, .ref asl, .ref ace, .int (nI M), .int (nI B), .ref ape, .ref aki, .ref abo, .int at_, .int rM, .int rB, .ref arp, .ref ark, .ref arb, .int fb, .int fto, .int (nI R), .ref awh, .ref awn, .ref awm, .ref awk, .ref amo, .ref amu])), (ape, aI G 25 P), (abo, aI G 4 U), (aso, aI G 4 SO), (asl, aI G 4 SL), (ace, aI G 240 CE)] := hD
  refine lv_aload_n hx hb dX5_walk_5 rfl (lv_at hl 0 rfl) ?_
  refine lv_iload_n hx hb dX5_walk_6 rfl (lv_at hl 1 rfl) ?_
  refine rdV (As := [.int b]) (rest := []) (ci := 5) (q0 := 0) hE (kX5_isBoy l G o (nI 0) ftr aso asl ace M B ape aki abo at_ rM rB arp ark arb fb fto R awh awn awm awk amo amu b hB) (cwV 1 hts gX5_walk_X5_isBoy rfl rfl rfl (by decide +kernel) ⟨Nat.le_of_ble_eq_true rfl, Nat.le_of_ble_eq_true rfl⟩) hP hK [0] rfl rfl rfl rfl hl.1 rfl (Nat.le_of_ble_eq_true rfl) dX5_walk_7 ⟨Nat.zero_le _, Nat.zero_le _⟩ ?_
  refine W.eq (g2 := F0 m 10 ls [.int (bI (vp_in b B))]) rfl ?_
  refine bz_eq (tgt := 20) hx hb dX5_walk_10 (by decide) (fun c1 => ?_) (fun c1 => ?_)
  ·
    refine lv_iconst (v := (-1)) hx hb dX5_walk_20 (by decide) ?_
    exact hret _ _ _ _ _ (by first | with_reducible rfl | (simp only [s_walk, f_walk, wkv, iF_f c1]; done) | contradiction) (by first | with_reducible exact hP | (simp only [s_walk, f_walk, wkv, iF_f c1]; with_reducible exact hP) | contradiction | (simp only [s_walk, f_walk, wkv, iF_f c1]; exact hP) | exact hP) hS dX5_walk_21
  ·
    obtain ⟨jb, hjb, rfl⟩ := vp_in_of c1 (by omega)
    refine lv_iload_n hx hb dX5_walk_13 rfl (lv_at hl 2 rfl) ?_
    refine rdS (As := [.int k]) (rest := []) hE (kX5_isSheet l G k ) (va_cwS 1 hts gX5_walk_X5_isSheet rfl rfl rfl (by decide +kernel) ⟨Nat.le_of_ble_eq_true rfl, Nat.le_of_ble_eq_true rfl⟩) hP hK [] rfl rfl hl.1 rfl (Nat.le_of_ble_eq_true rfl) dX5_walk_14 ⟨Nat.zero_le _, Nat.zero_le _⟩ ?_
    refine W.eq (g2 := F0 m 17 ls [.int (bI (vp_in k 4))]) rfl ?_
    refine bz_ne (tgt := 22) hx hb dX5_walk_17 (by decide) (fun c2 => ?_) (fun c2 => ?_)
    ·
      obtain ⟨jk, hjk, rfl⟩ := vp_in_of c2 (by omega)
      refine lv_iload_n hx hb dX5_walk_22 rfl (lv_at hl 3 rfl) ?_
      refine rdS (As := [.int lane]) (rest := []) hE (kX5_isSort l G lane ) (va_cwS 1 hts gX5_walk_X5_isSort rfl rfl rfl (by decide +kernel) ⟨Nat.le_of_ble_eq_true rfl, Nat.le_of_ble_eq_true rfl⟩) hP hK [] rfl rfl hl.1 rfl (Nat.le_of_ble_eq_true rfl) dX5_walk_23 ⟨Nat.zero_le _, Nat.zero_le _⟩ ?_
      refine W.eq (g2 := F0 m 26 ls [.int (bI (vp_in lane (2 + 1)))]) rfl ?_
      refine bz_eq (tgt := 40) hx hb dX5_walk_26 (by decide) (fun c3 => ?_) (fun c3 => ?_)
      ·
        refine lv_bipush (v := (-2)) hx hb dX5_walk_40 (by decide) ?_
        exact hret _ _ _ _ _ (by first | with_reducible rfl | (simp only [s_walk, f_walk, wkv, iF_t c1, iF_t c2, iF_f c3, tn_nI (show jb < 2 ^ 31 by omega), tn_nI (show jk < 2 ^ 31 by omega)]; done) | contradiction) (by first | with_reducible exact hP | (simp only [s_walk, f_walk, wkv, iF_t c1, iF_t c2, iF_f c3, tn_nI (show jb < 2 ^ 31 by omega), tn_nI (show jk < 2 ^ 31 by omega)]; with_reducible exact hP) | contradiction | (simp only [s_walk, f_walk, wkv, iF_t c1, iF_t c2, iF_f c3, tn_nI (show jb < 2 ^ 31 by omega), tn_nI (show jk < 2 ^ 31 by omega)]; exact hP) | exact hP) hS dX5_walk_42
      ·
        refine lv_iload hx hb dX5_walk_29 (lv_at hl 5 rfl) ?_
        refine lv_iconst (v := nI 0) hx hb dX5_walk_31 (by decide) ?_
        refine lv_bipush (v := nI 40) hx hb dX5_walk_32 (by decide) ?_
        refine rdS (As := [.int n, .int (nI 0), .int (nI 40)]) (rest := []) hE (kX5_within0 l G n 40 (by first | omega | assumption | exact hU _ (by omega) | exact hz _ (by omega) | exact hK3 _ (by omega))) (va_cwS 3 hts gX5_walk_X5_within rfl rfl rfl (by decide +kernel) ⟨Nat.le_of_ble_eq_true rfl, Nat.le_of_ble_eq_true rfl⟩) hP hK [] rfl rfl hl.1 rfl (Nat.le_of_ble_eq_true rfl) dX5_walk_34 ⟨Nat.zero_le _, Nat.zero_le _⟩ ?_
        refine W.eq (g2 := F0 m 37 ls [.int (bI (vp_in n (40 + 1)))]) rfl ?_
        refine bz_ne (tgt := 43) hx hb dX5_walk_37 (by decide) (fun c4 => ?_) (fun c4 => ?_)
        ·
          obtain ⟨jn, hjn, rfl⟩ := vp_in_of c4 (by omega)
          refine lv_aload_n hx hb dX5_walk_43 rfl (lv_at hl 0 rfl) ?_
          refine lv_iload_n hx hb dX5_walk_44 rfl (lv_at hl 2 rfl) ?_
          refine lv_iload_n hx hb dX5_walk_45 rfl (lv_at hl 3 rfl) ?_
          refine lv_iload hx hb dX5_walk_46 (lv_at hl 4 rfl) ?_
          refine lv_iload hx hb dX5_walk_48 (lv_at hl 5 rfl) ?_
          refine rdV (As := [.int (nI jk), .int lane, .int i, .int (nI jn)]) (rest := []) (ci := 5) (q0 := 0) hE (kX5_against l G o (nI 0) ftr aso asl ace M B ape aki abo at_ rM rB arp ark arb fb fto R awh awn awm awk amo amu SO SL jk L lane i (nI jn) hjk (hlk jk (by omega) rfl)) (cwV 4 hts gX5_walk_X5_against rfl rfl rfl (by decide +kernel) ⟨Nat.le_of_ble_eq_true rfl, Nat.le_of_ble_eq_true rfl⟩) hP hK [0, 3, 4] rfl rfl rfl rfl hl.1 rfl (Nat.le_of_ble_eq_true rfl) dX5_walk_50 ⟨Nat.zero_le _, Nat.zero_le _⟩ ?_
          refine W.eq (g2 := F0 m 53 ls [.int (ft (-9) (SO jk) L lane i (nI jn))]) rfl ?_
          refine lv_istore (lv' := [(6, .int (ft (-9) (SO jk) L lane i (nI jn))), (0, .ref o), (1, .int (nI jb)), (2, .int (nI jk)), (3, .int lane), (4, .int i), (5, .int (nI jn))]) hx hb dX5_walk_53 hl (by decide) rfl (fun ls hl => ?_)
          refine lv_iload hx hb dX5_walk_55 (lv_at hl 0 rfl) ?_
          refine lv_if_eq (tgt := 67) hx hb dX5_walk_57 (by decide) (fun c5 => ?_) (fun c5 => ?_)
          ·
            obtain ⟨ji, jn9, rfl, en9, hin9⟩ := hc_of (ft_hc c5).2.2 (by omega)
            have hn9 : jn = jn9 := (nI_eq (by omega) (by omega)).mp en9
            refine lv_bipush (v := nI 60) hx hb dX5_walk_67 (by decide) ?_
            refine lv_iload_n hx hb dX5_walk_69 rfl (lv_at hl 3 rfl) ?_
            refine lv_imul hx hb dX5_walk_70 ?_
            refine lv_tope (show (nI 60) * (nI jk) = nI (60 * jk) from pk_mul _ _) ?_
            refine lv_iload hx hb dX5_walk_71 (lv_at hl 5 rfl) ?_
            refine lv_iadd hx hb dX5_walk_73 ?_
            refine lv_tope (show (nI (60 * jk)) + (nI ji) = nI ((60 * jk) + ji) from nI_add _ _) ?_
            refine lv_istore (lv' := [(7, .int (nI ((60 * jk) + ji))), (6, .int (ft (-9) (SO jk) L lane (nI ji) (nI jn))), (0, .ref o), (1, .int (nI jb)), (2, .int (nI jk)), (3, .int lane), (4, .int (nI ji)), (5, .int (nI jn))]) hx hb dX5_walk_74 hl (by decide) rfl (fun ls hl => ?_)
            refine lv_iconst (v := nI 0) hx hb dX5_walk_76 (by decide) ?_
            refine lv_istore (lv' := [(8, .int (nI 0)), (7, .int (nI ((60 * jk) + ji))), (6, .int (ft (-9) (SO jk) L lane (nI ji) (nI jn))), (0, .ref o), (1, .int (nI jb)), (2, .int (nI jk)), (3, .int lane), (4, .int (nI ji)), (5, .int (nI jn))]) hx hb dX5_walk_77 hl (by decide) rfl (fun ls hl => ?_)
            have loop1 : ∀ (d t : Nat) (ls : Array Slot), jn < t + d → t ≤ jn → (fi (fun t => ¬ vp_in (CE (60 * jk + ji + t)) M) t = none) → lv_has ls 10 [(8, .int (nI t)), (7, .int (nI ((60 * jk) + ji))), (6, .int (ft (-9) (SO jk) L lane (nI ji) (nI jn))), (0, .ref o), (1, .int (nI jb)), (2, .int (nI jk)), (3, .int lane), (4, .int (nI ji)), (5, .int (nI jn))] → W p l e ({ frames := 2, cells := 0, slots := 0, locals := 44 } : Room) s m ([.ref o, .int (nI jb), .int (nI jk), .int lane, .int (nI ji), .int (nI jn)] : List Value).toArray below meth c H locs 0 0 Q (F0 m 79 ls []) := by
              intro d
              induction d with
              | zero =>
                intro t ls h1 h2
                omega
              | succ d ih1 =>
                intro t ls hdt hbt hk1 hl
                refine lv_iload hx hb dX5_walk_79 (lv_at hl 0 rfl) ?_
                refine lv_iload hx hb dX5_walk_81 (lv_at hl 8 rfl) ?_
                refine ic_ge (tgt := 111) hx hb (by omega) (by omega) dX5_walk_83 (by decide) (fun c6 => ?_) (fun c6 => ?_)
                ·
                  obtain rfl : jn = t := by omega
                  refine lv_aload_n hx hb dX5_walk_111 rfl (lv_at hl 3 rfl) ?_
                  refine g_get (v := .ref abo) hx hb hts ixX5_walk_X5 hown hK hP 0 rfl rfl 9 (by decide) lkX5_walk_25 rfl dX5_walk_112 ?_
                  refine lv_iload_n hx hb dX5_walk_115 rfl (lv_at hl 4 rfl) ?_
                  refine n_ald hx hb hK hP 2 rfl (k := jb) (by omega) (by decide) dX5_walk_116 ?_
                  refine lv_tope (show U jb = nI (tn (U jb)) from tn_of (hU jb hjb) (by omega)) ?_
                  refine lv_istore (lv' := [(8, .int (nI (tn (U jb)))), (7, .int (nI ((60 * jk) + ji))), (6, .int (ft (-9) (SO jk) L lane (nI ji) (nI jn))), (0, .ref o), (1, .int (nI jb)), (2, .int (nI jk)), (3, .int lane), (4, .int (nI ji)), (5, .int (nI jn))]) hx hb dX5_walk_117 hl (by decide) rfl (fun ls hl => ?_)
                  refine lv_iconst (v := nI 0) hx hb dX5_walk_119 (by decide) ?_
                  refine lv_istore (lv' := [(9, .int (nI 0)), (8, .int (nI (tn (U jb)))), (7, .int (nI ((60 * jk) + ji))), (6, .int (ft (-9) (SO jk) L lane (nI ji) (nI jn))), (0, .ref o), (1, .int (nI jb)), (2, .int (nI jk)), (3, .int lane), (4, .int (nI ji)), (5, .int (nI jn))]) hx hb dX5_walk_120 hl (by decide) rfl (fun ls hl => ?_)
                  have loop2 : ∀ (d q : Nat) (ls : Array Slot), jn < q + d → q ≤ jn → (fi (fun t => ¬ CE (60 * jk + ji + t) = nI (wh P M (tn (U jb)) t)) q = none) → lv_has ls 10 [(9, .int (nI q)), (8, .int (nI (wh P M (tn (U jb)) q))), (7, .int (nI ((60 * jk) + ji))), (6, .int (ft (-9) (SO jk) L lane (nI ji) (nI jn))), (0, .ref o), (1, .int (nI jb)), (2, .int (nI jk)), (3, .int lane), (4, .int (nI ji)), (5, .int (nI jn))] → W p l e ({ frames := 2, cells := 0, slots := 0, locals := 44 } : Room) s m ([.ref o, .int (nI jb), .int (nI jk), .int lane, .int (nI ji), .int (nI jn)] : List Value).toArray below meth c H locs 0 0 Q (F0 m 122 ls []) := by
                    intro d
                    induction d with
                    | zero =>
                      intro q ls h1 h2
                      omega
                    | succ d ih2 =>
                      intro q ls hdq hbq hk2 hl
                      refine lv_iload hx hb dX5_walk_122 (lv_at hl 0 rfl) ?_
                      refine lv_iload hx hb dX5_walk_124 (lv_at hl 9 rfl) ?_
                      refine ic_ge (tgt := 161) hx hb (by omega) (by omega) dX5_walk_126 (by decide) (fun c7 => ?_) (fun c7 => ?_)
                      ·
                        obtain rfl : jn = q := by omega
                        refine lv_bipush (v := (-9)) hx hb dX5_walk_161 (by decide) ?_
                        exact hret _ _ _ _ _ (by simp only [s_walk, f_walk, wkv, iF_t c1, iF_t c2, iF_t c3, iF_t c4, iF_t c5, iF_f (Nat.not_lt.mpr c6), iF_t hk1, iF_f (Nat.not_lt.mpr c7), tn_nI (show jb < 2 ^ 31 by omega), tn_nI (show jk < 2 ^ 31 by omega), tn_nI (show jn < 2 ^ 31 by omega), tn_nI (show ji < 2 ^ 31 by omega)]; rw [hk2]; rfl) (by first | with_reducible exact hP | (simp only [s_walk, f_walk, wkv, iF_t c1, iF_t c2, iF_t c3, iF_t c4, iF_t c5, iF_f (Nat.not_lt.mpr c6), iF_t hk1, iF_f (Nat.not_lt.mpr c7), tn_nI (show jb < 2 ^ 31 by omega), tn_nI (show jk < 2 ^ 31 by omega), tn_nI (show jn < 2 ^ 31 by omega), tn_nI (show ji < 2 ^ 31 by omega)]; with_reducible exact hP) | contradiction | (simp only [s_walk, f_walk, wkv, iF_t c1, iF_t c2, iF_t c3, iF_t c4, iF_t c5, iF_f (Nat.not_lt.mpr c6), iF_t hk1, iF_f (Nat.not_lt.mpr c7), tn_nI (show jb < 2 ^ 31 by omega), tn_nI (show jk < 2 ^ 31 by omega), tn_nI (show jn < 2 ^ 31 by omega), tn_nI (show ji < 2 ^ 31 by omega)]; exact hP) | exact hP) hS dX5_walk_163
                      ·
                        refine lv_aload_n hx hb dX5_walk_129 rfl (lv_at hl 4 rfl) ?_
                        refine g_get (v := .ref ace) hx hb hts ixX5_walk_X5 hown hK hP 0 rfl rfl 4 (by decide) lkX5_walk_16 rfl dX5_walk_130 ?_
                        refine lv_iload hx hb dX5_walk_133 (lv_at hl 2 rfl) ?_
                        refine lv_iload hx hb dX5_walk_135 (lv_at hl 0 rfl) ?_
                        refine lv_iadd hx hb dX5_walk_137 ?_
                        refine lv_tope (show (nI ((60 * jk) + ji)) + (nI q) = nI (((60 * jk) + ji) + q) from nI_add _ _) ?_
                        refine n_ald hx hb hK hP 5 rfl (k := ((60 * jk) + ji) + q) (by omega) (by decide) dX5_walk_138 ?_
                        refine lv_iload hx hb dX5_walk_139 (lv_at hl 1 rfl) ?_
                        refine lv_icmp_eq (tgt := 147) hx hb dX5_walk_141 (by decide) (fun c8 => ?_) (fun c8 => ?_)
                        ·
                          refine lv_aload_n hx hb dX5_walk_147 rfl (lv_at hl 4 rfl) ?_
                          refine lv_iload hx hb dX5_walk_148 (lv_at hl 1 rfl) ?_
                          refine rdV (As := [.int (nI (wh P M (tn (U jb)) q))]) (rest := []) (ci := 5) (q0 := 0) hE (kX5_nextOf l G o (nI 0) ftr aso asl ace M B ape aki abo at_ rM rB arp ark arb fb fto R awh awn awm awk amo amu P (wh P M (tn (U jb)) q) hM (wh_lt (tn_lt (hU jb hjb) (by omega)) q)) (cwV 1 hts gX5_walk_X5_nextOf rfl rfl rfl (by decide +kernel) ⟨Nat.le_of_ble_eq_true rfl, Nat.le_of_ble_eq_true rfl⟩) hP hK [0, 1] rfl rfl rfl rfl hl.1 rfl (Nat.le_of_ble_eq_true rfl) dX5_walk_150 ⟨Nat.zero_le _, Nat.zero_le _⟩ ?_
                          refine W.eq (g2 := F0 m 153 ls [.int (nI (nxt P M (wh P M (tn (U jb)) q)))]) rfl ?_
                          refine lv_istore (lv' := [(8, .int (nI (nxt P M (wh P M (tn (U jb)) q)))), (9, .int (nI q)), (7, .int (nI ((60 * jk) + ji))), (6, .int (ft (-9) (SO jk) L lane (nI ji) (nI jn))), (0, .ref o), (1, .int (nI jb)), (2, .int (nI jk)), (3, .int lane), (4, .int (nI ji)), (5, .int (nI jn))]) hx hb dX5_walk_153 hl (by decide) rfl (fun ls hl => ?_)
                          refine lv_iinc (v := nI (q + 1)) (lv' := [(9, .int (nI (q + 1))), (8, .int (nI (nxt P M (wh P M (tn (U jb)) q)))), (7, .int (nI ((60 * jk) + ji))), (6, .int (ft (-9) (SO jk) L lane (nI ji) (nI jn))), (0, .ref o), (1, .int (nI jb)), (2, .int (nI jk)), (3, .int lane), (4, .int (nI ji)), (5, .int (nI jn))]) hx hb dX5_walk_155 hl (k := 1) rfl (show nI q + Int32.ofInt 1 = nI (q + 1) from nI_add _ 1) (by decide) rfl (fun ls hl => ?_)
                          refine lv_goto (tgt := 122) hx hb dX5_walk_158 (by decide) ?_
                          have hl9 : lv_has ls 10 [(9, .int (nI (q + 1))), (8, .int (nI (wh P M (tn (U jb)) (q + 1)))), (7, .int (nI ((60 * jk) + ji))), (6, .int (ft (-9) (SO jk) L lane (nI ji) (nI jn))), (0, .ref o), (1, .int (nI jb)), (2, .int (nI jk)), (3, .int lane), (4, .int (nI ji)), (5, .int (nI jn))] := by
                            rw [show (nI (wh P M (tn (U jb)) (q + 1))) = (nI (nxt P M (wh P M (tn (U jb)) q))) from by first | rfl | simp only [wh, iF_t c1, iF_t c2, iF_t c3, iF_t c4, iF_t c5, iF_f (Nat.not_lt.mpr c6), iF_t hk1, iF_t c7, iF_t c8, tn_nI (show jb < 2 ^ 31 by omega), tn_nI (show jk < 2 ^ 31 by omega), tn_nI (show jn < 2 ^ 31 by omega), tn_nI (show ji < 2 ^ 31 by omega)]]
                            exact (lv_sub hl [0, 1, 2, 3, 4, 5, 6, 7, 8, 9] rfl)
                          exact ih2 (q + 1) ls (by omega) (by omega) (fi_miss hk2 (fun h => h c8)) hl9
                        ·
                          refine lv_iload hx hb dX5_walk_144 (lv_at hl 0 rfl) ?_
                          exact hret _ _ _ _ _ (by simp only [s_walk, f_walk, wkv, iF_t c1, iF_t c2, iF_t c3, iF_t c4, iF_t c5, iF_f (Nat.not_lt.mpr c6), iF_t hk1, iF_t c7, iF_f c8, tn_nI (show jb < 2 ^ 31 by omega), tn_nI (show jk < 2 ^ 31 by omega), tn_nI (show jn < 2 ^ 31 by omega), tn_nI (show ji < 2 ^ 31 by omega)]; rw [fi_hit hk2 c8 (by omega)]; rfl) (by first | with_reducible exact hP | (simp only [s_walk, f_walk, wkv, iF_t c1, iF_t c2, iF_t c3, iF_t c4, iF_t c5, iF_f (Nat.not_lt.mpr c6), iF_t hk1, iF_t c7, iF_f c8, tn_nI (show jb < 2 ^ 31 by omega), tn_nI (show jk < 2 ^ 31 by omega), tn_nI (show jn < 2 ^ 31 by omega), tn_nI (show ji < 2 ^ 31 by omega)]; with_reducible exact hP) | contradiction | (simp only [s_walk, f_walk, wkv, iF_t c1, iF_t c2, iF_t c3, iF_t c4, iF_t c5, iF_f (Nat.not_lt.mpr c6), iF_t hk1, iF_t c7, iF_f c8, tn_nI (show jb < 2 ^ 31 by omega), tn_nI (show jk < 2 ^ 31 by omega), tn_nI (show jn < 2 ^ 31 by omega), tn_nI (show ji < 2 ^ 31 by omega)]; exact hP) | exact hP) hS dX5_walk_146
                  have hl10 : lv_has ls 10 [(9, .int (nI 0)), (8, .int (nI (wh P M (tn (U jb)) 0))), (7, .int (nI ((60 * jk) + ji))), (6, .int (ft (-9) (SO jk) L lane (nI ji) (nI jn))), (0, .ref o), (1, .int (nI jb)), (2, .int (nI jk)), (3, .int lane), (4, .int (nI ji)), (5, .int (nI jn))] := by
                    rw [show (nI (wh P M (tn (U jb)) 0)) = (nI (tn (U jb))) from by first | rfl | simp only [wh, iF_t c1, iF_t c2, iF_t c3, iF_t c4, iF_t c5, iF_f (Nat.not_lt.mpr c6), iF_t hk1, tn_nI (show jb < 2 ^ 31 by omega), tn_nI (show jk < 2 ^ 31 by omega), tn_nI (show jn < 2 ^ 31 by omega), tn_nI (show ji < 2 ^ 31 by omega)]]
                    exact (lv_sub hl [0, 1, 2, 3, 4, 5, 6, 7, 8, 9] rfl)
                  exact loop2 (jn + 1) 0 ls (by omega) (by omega) rfl hl10
                ·
                  refine lv_aload_n hx hb dX5_walk_86 rfl (lv_at hl 3 rfl) ?_
                  refine lv_aload_n hx hb dX5_walk_87 rfl (lv_at hl 3 rfl) ?_
                  refine g_get (v := .ref ace) hx hb hts ixX5_walk_X5 hown hK hP 0 rfl rfl 4 (by decide) lkX5_walk_16 rfl dX5_walk_88 ?_
                  refine lv_iload hx hb dX5_walk_91 (lv_at hl 1 rfl) ?_
                  refine lv_iload hx hb dX5_walk_93 (lv_at hl 0 rfl) ?_
                  refine lv_iadd hx hb dX5_walk_95 ?_
                  refine lv_tope (show (nI ((60 * jk) + ji)) + (nI t) = nI (((60 * jk) + ji) + t) from nI_add _ _) ?_
                  refine n_ald hx hb hK hP 5 rfl (k := ((60 * jk) + ji) + t) (by omega) (by decide) dX5_walk_96 ?_
                  refine rdV (As := [.int (CE (((60 * jk) + ji) + t))]) (rest := []) (ci := 5) (q0 := 0) hE (kX5_isMaster l G o (nI 0) ftr aso asl ace M B ape aki abo at_ rM rB arp ark arb fb fto R awh awn awm awk amo amu (CE (((60 * jk) + ji) + t)) hM) (cwV 1 hts gX5_walk_X5_isMaster rfl rfl rfl (by decide +kernel) ⟨Nat.le_of_ble_eq_true rfl, Nat.le_of_ble_eq_true rfl⟩) hP hK [0] rfl rfl rfl rfl hl.1 rfl (Nat.le_of_ble_eq_true rfl) dX5_walk_97 ⟨Nat.zero_le _, Nat.zero_le _⟩ ?_
                  refine W.eq (g2 := F0 m 100 ls [.int (bI (vp_in (CE (((60 * jk) + ji) + t)) M))]) rfl ?_
                  refine bz_ne (tgt := 105) hx hb dX5_walk_100 (by decide) (fun c11 => ?_) (fun c11 => ?_)
                  ·
                    refine lv_iinc (v := nI (t + 1)) (lv' := [(8, .int (nI (t + 1))), (7, .int (nI ((60 * jk) + ji))), (6, .int (ft (-9) (SO jk) L lane (nI ji) (nI jn))), (0, .ref o), (1, .int (nI jb)), (2, .int (nI jk)), (3, .int lane), (4, .int (nI ji)), (5, .int (nI jn))]) hx hb dX5_walk_105 hl (k := 0) rfl (show nI t + Int32.ofInt 1 = nI (t + 1) from nI_add _ 1) (by decide) rfl (fun ls hl => ?_)
                    refine lv_goto (tgt := 79) hx hb dX5_walk_108 (by decide) ?_
                    exact ih1 (t + 1) ls (by omega) (by omega) (fi_miss hk1 (fun h => h c11)) (lv_sub hl [0, 1, 2, 3, 4, 5, 6, 7, 8] rfl)
                  ·
                    refine lv_iconst (v := (-1)) hx hb dX5_walk_103 (by decide) ?_
                    exact hret _ _ _ _ _ (by simp only [s_walk, f_walk, wkv, iF_t c1, iF_t c2, iF_t c3, iF_t c4, iF_t c5, iF_t c6, iF_f c11, tn_nI (show jb < 2 ^ 31 by omega), tn_nI (show jk < 2 ^ 31 by omega), tn_nI (show jn < 2 ^ 31 by omega), tn_nI (show ji < 2 ^ 31 by omega)]; rw [iF_f (fun h => by rw [fi_hit hk1 c11 (by omega)] at h; cases h)]) (by first | with_reducible exact hP | (simp only [s_walk, f_walk, wkv, iF_t c1, iF_t c2, iF_t c3, iF_t c4, iF_t c5, iF_t c6, iF_f c11, tn_nI (show jb < 2 ^ 31 by omega), tn_nI (show jk < 2 ^ 31 by omega), tn_nI (show jn < 2 ^ 31 by omega), tn_nI (show ji < 2 ^ 31 by omega)]; with_reducible exact hP) | contradiction | (simp only [s_walk, f_walk, wkv, iF_t c1, iF_t c2, iF_t c3, iF_t c4, iF_t c5, iF_t c6, iF_f c11, tn_nI (show jb < 2 ^ 31 by omega), tn_nI (show jk < 2 ^ 31 by omega), tn_nI (show jn < 2 ^ 31 by omega), tn_nI (show ji < 2 ^ 31 by omega)]; exact hP) | exact hP) hS dX5_walk_104
            exact loop1 (jn + 1) 0 ls (by omega) (by omega) rfl (lv_sub hl [0, 1, 2, 3, 4, 5, 6, 7, 8] rfl)
          ·
            refine lv_aload_n hx hb dX5_walk_60 rfl (lv_at hl 1 rfl) ?_
            refine lv_iload hx hb dX5_walk_61 (lv_at hl 0 rfl) ?_
            refine wtV (As := [.int (ft (-9) (SO jk) L lane i (nI jn))]) (rest := []) (ci := 5) (q0 := 0) hE (kX5_fails l G o (nI 0) ftr aso asl ace M B ape aki abo at_ rM rB arp ark arb fb fto R awh awn awm awk amo amu (ft (-9) (SO jk) L lane i (nI jn)) ) (cwV 1 hts gX5_walk_X5_fails rfl rfl rfl (by decide +kernel) ⟨Nat.le_of_ble_eq_true rfl, Nat.le_of_ble_eq_true rfl⟩) hP hK hD hS [0] (by decide) rfl (Eq.trans (b := [o]) rfl rfl) (W1 := [(o, .inr (5, [.int (ft (-9) (SO jk) L lane i (nI jn)), .int ftr, .ref aso, .ref asl, .ref ace, .int (nI M), .int (nI B), .ref ape, .ref aki, .ref abo, .int at_, .int rM, .int rB, .ref arp, .ref ark, .ref arb, .int fb, .int fto, .int (nI R), .ref awh, .ref awn, .ref awm, .ref awk, .ref amo, .ref amu])), (ape, aI G 25 P), (abo, aI G 4 U), (aso, aI G 4 SO), (asl, aI G 4 SL), (ace, aI G 240 CE)]) rfl rfl rfl rfl hl.1 rfl (Nat.le_of_ble_eq_true rfl) dX5_walk_63 ⟨Nat.zero_le _, Nat.zero_le _⟩ (fun H locs hP hD hS => ?_)
            refine W.eq (g2 := F0 m 66 ls [.int ((-10) - (ft (-9) (SO jk) L lane i (nI jn)))]) rfl ?_
            exact hret _ _ _ _ _ (by first | with_reducible rfl | (simp only [s_walk, f_walk, wkv, iF_t c1, iF_t c2, iF_t c3, iF_t c4, iF_f c5, tn_nI (show jb < 2 ^ 31 by omega), tn_nI (show jk < 2 ^ 31 by omega), tn_nI (show jn < 2 ^ 31 by omega)]; done) | contradiction) (by first | with_reducible exact hP | (simp only [s_walk, f_walk, wkv, iF_t c1, iF_t c2, iF_t c3, iF_t c4, iF_f c5, tn_nI (show jb < 2 ^ 31 by omega), tn_nI (show jk < 2 ^ 31 by omega), tn_nI (show jn < 2 ^ 31 by omega)]; with_reducible exact hP) | contradiction | (simp only [s_walk, f_walk, wkv, iF_t c1, iF_t c2, iF_t c3, iF_t c4, iF_f c5, tn_nI (show jb < 2 ^ 31 by omega), tn_nI (show jk < 2 ^ 31 by omega), tn_nI (show jn < 2 ^ 31 by omega)]; exact hP) | exact hP) hS dX5_walk_66
        ·
          refine lv_bipush (v := (-2)) hx hb dX5_walk_40 (by decide) ?_
          exact hret _ _ _ _ _ (by first | with_reducible rfl | (simp only [s_walk, f_walk, wkv, iF_t c1, iF_t c2, iF_t c3, iF_f c4, tn_nI (show jb < 2 ^ 31 by omega), tn_nI (show jk < 2 ^ 31 by omega)]; done) | contradiction) (by first | with_reducible exact hP | (simp only [s_walk, f_walk, wkv, iF_t c1, iF_t c2, iF_t c3, iF_f c4, tn_nI (show jb < 2 ^ 31 by omega), tn_nI (show jk < 2 ^ 31 by omega)]; with_reducible exact hP) | contradiction | (simp only [s_walk, f_walk, wkv, iF_t c1, iF_t c2, iF_t c3, iF_f c4, tn_nI (show jb < 2 ^ 31 by omega), tn_nI (show jk < 2 ^ 31 by omega)]; exact hP) | exact hP) hS dX5_walk_42
    ·
      refine lv_iconst (v := (-1)) hx hb dX5_walk_20 (by decide) ?_
      exact hret _ _ _ _ _ (by first | with_reducible rfl | (simp only [s_walk, f_walk, wkv, iF_t c1, iF_f c2, tn_nI (show jb < 2 ^ 31 by omega)]; done) | contradiction) (by first | with_reducible exact hP | (simp only [s_walk, f_walk, wkv, iF_t c1, iF_f c2, tn_nI (show jb < 2 ^ 31 by omega)]; with_reducible exact hP) | contradiction | (simp only [s_walk, f_walk, wkv, iF_t c1, iF_f c2, tn_nI (show jb < 2 ^ 31 by omega)]; exact hP) | exact hP) hS dX5_walk_21
