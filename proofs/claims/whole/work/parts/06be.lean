theorem ixX5_forge_X5 : ∀ w ∈ wsX50, w ∈ wsX5_forge := fun _ h => List.mem_cons_of_mem _ (List.mem_append_right _ h)
theorem lkX5_forge_140 : Cond.fieldLink RX5 140 (TX5 17).1 (TX5 17).2.1 (TX5 17).2.2.1 ∈ wsX5_forge := List.mem_of_getElem? (i := 2) rfl
theorem lkX5_forge_137 : Cond.fieldLink RX5 137 (TX5 16).1 (TX5 16).2.1 (TX5 16).2.2.1 ∈ wsX5_forge := List.mem_of_getElem? (i := 1) rfl
set_option maxHeartbeats 4000000 in
set_option maxRecDepth 100000 in
theorem kX5_forge (l : Launch) (G : Gl) (o : Nat) (ff : Int32) (ftr : Int32) (aso : Nat) (asl : Nat) (ace : Nat) (M : Nat) (B : Nat) (ape : Nat) (aki : Nat) (abo : Nat) (at_ : Int32) (rM : Int32) (rB : Int32) (arp : Nat) (ark : Nat) (arb : Nat) (fb : Int32) (fto : Int32) (R : Nat) (awh : Nat) (awn : Nat) (awm : Nat) (awk : Nat) (amo : Nat) (amu : Nat) (P : Nat → Int32) (U : Nat → Int32) (b : Int32) (m0 : Int32) (n : Int32) (w : Int32) (hM : M ≤ 5) (hB : B ≤ 4) (hz : ∀ j, j < M → P (j * 5 + j) = nI 0) (hU : ∀ b, b < B → vp_in (U b) M) (h9 : P9 P M) : Wt l G yX5_forge wsX5_forge ({ frames := 5, cells := 0, slots := 0, locals := 121 } : Room) [.ref o, .int b, .int m0, .int n, .int w] [(o, .inr (5, [.int ff, .int ftr, .ref aso, .ref asl, .ref ace, .int (nI M), .int (nI B), .ref ape, .ref aki, .ref abo, .int at_, .int rM, .int rB, .ref arp, .ref ark, .ref arb, .int fb, .int fto, .int (nI R), .ref awh, .ref awn, .ref awm, .ref awk, .ref amo, .ref amu])), (ape, aI G 25 P), (abo, aI G 4 U)] [(o, .inr (5, [.int ff, .int ftr, .ref aso, .ref asl, .ref ace, .int (nI M), .int (nI B), .ref ape, .ref aki, .ref abo, .int at_, .int rM, .int rB, .ref arp, .ref ark, .ref arb, .int (fgB B M P U b m0 n w fb), .int (fgT B M P U b m0 n w fto), .int (nI R), .ref awh, .ref awn, .ref awm, .ref awk, .ref amo, .ref amu])), (ape, aI G 25 P), (abo, aI G 4 U)] (some (.int (s_forge B M P U b m0 n w))) := by
  refine Wt.ofI (cc := cX5_forge) (maxL := 6) (by decide) rfl (Nat.le_of_ble_eq_true rfl) ?_
  intro p e s m below meth c Q A ls hE hP hK hD hS hl hret
  obtain ⟨hx, hb, hml, hown, hts⟩ := id hE
  have hl : lv_has ls 6 [(0, .ref o), (1, .int b), (2, .int m0), (3, .int n), (4, .int w)] := hl
  refine lv_aload_n hx hb dX5_forge_0 rfl (lv_at hl 0 rfl) ?_
  refine lv_iload_n hx hb dX5_forge_1 rfl (lv_at hl 1 rfl) ?_
  refine rdV (As := [.int b]) (rest := []) (ci := 5) (q0 := 0) hE (kX5_isBoy l G o ff ftr aso asl ace M B ape aki abo at_ rM rB arp ark arb fb fto R awh awn awm awk amo amu b hB) (cwV 1 hts gX5_forge_X5_isBoy rfl rfl rfl (by decide +kernel) ⟨Nat.le_of_ble_eq_true rfl, Nat.le_of_ble_eq_true rfl⟩) hP hK [0] rfl rfl rfl rfl hl.1 rfl (Nat.le_of_ble_eq_true rfl) dX5_forge_2 ⟨Nat.zero_le _, Nat.zero_le _⟩ ?_
  refine W.eq (g2 := F0 m 5 ls [.int (bI (vp_in b B))]) rfl ?_
  refine bz_eq (tgt := 16) hx hb dX5_forge_5 (by decide) (fun c1 => ?_) (fun c1 => ?_)
  ·
    refine lv_iconst (v := (-1)) hx hb dX5_forge_16 (by decide) ?_
    exact hret _ _ _ _ _ (by first | with_reducible rfl | (simp only [s_forge, fgr, fgB, fgT, iF_f c1]; done) | contradiction) (by first | with_reducible exact hP | (simp only [s_forge, fgr, fgB, fgT, iF_f c1]; with_reducible exact hP) | contradiction | (simp only [s_forge, fgr, fgB, fgT, iF_f c1]; exact hP) | exact hP) hS dX5_forge_17
  ·
    obtain ⟨jb, hjb, rfl⟩ := vp_in_of c1 (by omega)
    refine lv_aload_n hx hb dX5_forge_8 rfl (lv_at hl 0 rfl) ?_
    refine lv_iload_n hx hb dX5_forge_9 rfl (lv_at hl 2 rfl) ?_
    refine rdV (As := [.int m0]) (rest := []) (ci := 5) (q0 := 0) hE (kX5_isMaster l G o ff ftr aso asl ace M B ape aki abo at_ rM rB arp ark arb fb fto R awh awn awm awk amo amu m0 hM) (cwV 1 hts gX5_forge_X5_isMaster rfl rfl rfl (by decide +kernel) ⟨Nat.le_of_ble_eq_true rfl, Nat.le_of_ble_eq_true rfl⟩) hP hK [0] rfl rfl rfl rfl hl.1 rfl (Nat.le_of_ble_eq_true rfl) dX5_forge_10 ⟨Nat.zero_le _, Nat.zero_le _⟩ ?_
    refine W.eq (g2 := F0 m 13 ls [.int (bI (vp_in m0 M))]) rfl ?_
    refine bz_ne (tgt := 18) hx hb dX5_forge_13 (by decide) (fun c2 => ?_) (fun c2 => ?_)
    ·
      obtain ⟨jm0, hjm0, rfl⟩ := vp_in_of c2 (by omega)
      refine lv_iload_n hx hb dX5_forge_18 rfl (lv_at hl 3 rfl) ?_
      refine lv_iconst (v := nI 0) hx hb dX5_forge_19 (by decide) ?_
      refine lv_bipush (v := nI 20) hx hb dX5_forge_20 (by decide) ?_
      refine rdS (As := [.int n, .int (nI 0), .int (nI 20)]) (rest := []) hE (kX5_within0 l G n 20 (by first | omega | assumption | exact hU _ (by omega) | exact hz _ (by omega) | exact hK3 _ (by omega) | exact h9 _ _ (by omega) (by omega))) (va_cwS 3 hts gX5_forge_X5_within rfl rfl rfl (by decide +kernel) ⟨Nat.le_of_ble_eq_true rfl, Nat.le_of_ble_eq_true rfl⟩) hP hK [] rfl rfl hl.1 rfl (Nat.le_of_ble_eq_true rfl) dX5_forge_22 ⟨Nat.zero_le _, Nat.zero_le _⟩ ?_
      refine W.eq (g2 := F0 m 25 ls [.int (bI (vp_in n (20 + 1)))]) rfl ?_
      refine bz_eq (tgt := 38) hx hb dX5_forge_25 (by decide) (fun c3 => ?_) (fun c3 => ?_)
      ·
        refine lv_bipush (v := (-2)) hx hb dX5_forge_38 (by decide) ?_
        exact hret _ _ _ _ _ (by first | with_reducible rfl | (simp only [s_forge, fgr, fgB, fgT, iF_t c1, iF_t c2, iF_f c3, tn_nI (show jb < 2 ^ 31 by omega), tn_nI (show jm0 < 2 ^ 31 by omega)]; done) | contradiction) (by first | with_reducible exact hP | (simp only [s_forge, fgr, fgB, fgT, iF_t c1, iF_t c2, iF_f c3, tn_nI (show jb < 2 ^ 31 by omega), tn_nI (show jm0 < 2 ^ 31 by omega)]; with_reducible exact hP) | contradiction | (simp only [s_forge, fgr, fgB, fgT, iF_t c1, iF_t c2, iF_f c3, tn_nI (show jb < 2 ^ 31 by omega), tn_nI (show jm0 < 2 ^ 31 by omega)]; exact hP) | exact hP) hS dX5_forge_40
      ·
        obtain ⟨jn, hjn, rfl⟩ := vp_in_of c3 (by omega)
        refine lv_iload hx hb dX5_forge_28 (lv_at hl 4 rfl) ?_
        refine lv_iconst (v := nI 0) hx hb dX5_forge_30 (by decide) ?_
        refine lv_iconst (v := nI 2) hx hb dX5_forge_31 (by decide) ?_
        refine rdS (As := [.int w, .int (nI 0), .int (nI 2)]) (rest := []) hE (kX5_within0 l G w 2 (by first | omega | assumption | exact hU _ (by omega) | exact hz _ (by omega) | exact hK3 _ (by omega) | exact h9 _ _ (by omega) (by omega))) (va_cwS 3 hts gX5_forge_X5_within rfl rfl rfl (by decide +kernel) ⟨Nat.le_of_ble_eq_true rfl, Nat.le_of_ble_eq_true rfl⟩) hP hK [] rfl rfl hl.1 rfl (Nat.le_of_ble_eq_true rfl) dX5_forge_32 ⟨Nat.zero_le _, Nat.zero_le _⟩ ?_
        refine W.eq (g2 := F0 m 35 ls [.int (bI (vp_in w (2 + 1)))]) rfl ?_
        refine bz_ne (tgt := 41) hx hb dX5_forge_35 (by decide) (fun c4 => ?_) (fun c4 => ?_)
        ·
          refine lv_aload_n hx hb dX5_forge_41 rfl (lv_at hl 0 rfl) ?_
          refine lv_iload_n hx hb dX5_forge_42 rfl (lv_at hl 1 rfl) ?_
          refine lv_iload_n hx hb dX5_forge_43 rfl (lv_at hl 2 rfl) ?_
          refine lv_iload_n hx hb dX5_forge_44 rfl (lv_at hl 3 rfl) ?_
          refine wtV (As := [.int (nI jb), .int (nI jm0), .int (nI jn)]) (rest := []) (ci := 5) (q0 := 0) hE (kX5_findForge l G o ff ftr aso asl ace M B ape aki abo at_ rM rB arp ark arb fb fto R awh awn awm awk amo amu P U jb jm0 jn hM (by first | omega | assumption | exact hU _ (by omega) | exact hz _ (by omega) | exact hK3 _ (by omega) | exact h9 _ _ (by omega) (by omega)) (by first | omega | assumption | exact hU _ (by omega) | exact hz _ (by omega) | exact hK3 _ (by omega) | exact h9 _ _ (by omega) (by omega)) hjm0 (by first | omega | assumption | exact hU _ (by omega) | exact hz _ (by omega) | exact hK3 _ (by omega) | exact h9 _ _ (by omega) (by omega)) hz h9) (cwV 3 hts gX5_forge_X5_findForge rfl rfl rfl (by decide +kernel) ⟨Nat.le_of_ble_eq_true rfl, Nat.le_of_ble_eq_true rfl⟩) hP hK hD hS [0, 1, 2] (by decide) rfl (Eq.trans (b := [o, ape, abo]) rfl rfl) (W1 := [(o, .inr (5, [.int ff, .int ftr, .ref aso, .ref asl, .ref ace, .int (nI M), .int (nI B), .ref ape, .ref aki, .ref abo, .int at_, .int rM, .int rB, .ref arp, .ref ark, .ref arb, .int (iF (wh P M (tn (U jb)) jn = jm0) (-9) (e2 M (bst (thx P M (tn (U jb)) jn jm0) (M * M)))), .int (iF (wh P M (tn (U jb)) jn = jm0) (-9) (e3 M (bst (thx P M (tn (U jb)) jn jm0) (M * M)))), .int (nI R), .ref awh, .ref awn, .ref awm, .ref awk, .ref amo, .ref amu])), (ape, aI G 25 P), (abo, aI G 4 U)]) rfl rfl rfl rfl hl.1 rfl (Nat.le_of_ble_eq_true rfl) dX5_forge_45 ⟨Nat.zero_le _, Nat.zero_le _⟩ (fun H locs hP hD hS => ?_)
          refine W.eq (g2 := F0 m 48 ls [.int (iF (wh P M (tn (U jb)) jn = jm0) (nI 0) (e1 (bst (thx P M (tn (U jb)) jn jm0) (M * M))))]) rfl ?_
          refine lv_istore (lv' := [(5, .int (iF (wh P M (tn (U jb)) jn = jm0) (nI 0) (e1 (bst (thx P M (tn (U jb)) jn jm0) (M * M))))), (0, .ref o), (1, .int (nI jb)), (2, .int (nI jm0)), (3, .int (nI jn)), (4, .int w)]) hx hb dX5_forge_48 hl (by decide) rfl (fun ls hl => ?_)
          refine lv_iload hx hb dX5_forge_50 (lv_at hl 5 rfl) ?_
          refine lv_if_ne (tgt := 60) hx hb dX5_forge_52 (by decide) (fun c5 => ?_) (fun c5 => ?_)
          ·
            refine lv_iload hx hb dX5_forge_60 (lv_at hl 5 rfl) ?_
            refine lv_iconst (v := nI 1) hx hb dX5_forge_62 (by decide) ?_
            refine lv_icmp_ne (tgt := 73) hx hb dX5_forge_63 (by decide) (fun c6 => ?_) (fun c6 => ?_)
            ·
              refine lv_aload_n hx hb dX5_forge_73 rfl (lv_at hl 1 rfl) ?_
              refine g_get (v := .int (iF (wh P M (tn (U jb)) jn = jm0) (-9) (e3 M (bst (thx P M (tn (U jb)) jn jm0) (M * M))))) hx hb hts ixX5_forge_X5 hown hK hP 0 rfl rfl 17 (by decide) lkX5_forge_140 rfl dX5_forge_74 ?_
              exact hret _ _ _ _ _ ((Classical.em (wh P M (tn (U jb)) jn = jm0)).elim (fun hq9 => by simp only [s_forge, fgr, fgB, fgT, iF_t c1, iF_t c2, iF_t c3, iF_t c4, iF_f c5, iF_f c6, iF_f (show ¬ w = 1 from c6), tn_nI (show jb < 2 ^ 31 by omega), tn_nI (show jm0 < 2 ^ 31 by omega), tn_nI (show jn < 2 ^ 31 by omega), iF_t hq9]) (fun hq9 => by simp only [s_forge, fgr, fgB, fgT, iF_t c1, iF_t c2, iF_t c3, iF_t c4, iF_f c5, iF_f c6, iF_f (show ¬ w = 1 from c6), tn_nI (show jb < 2 ^ 31 by omega), tn_nI (show jm0 < 2 ^ 31 by omega), tn_nI (show jn < 2 ^ 31 by omega), iF_f hq9])) (by first | with_reducible exact hP | (simp only [s_forge, fgr, fgB, fgT, iF_t c1, iF_t c2, iF_t c3, iF_t c4, iF_f c5, iF_f c6, iF_f (show ¬ w = 1 from c6), tn_nI (show jb < 2 ^ 31 by omega), tn_nI (show jm0 < 2 ^ 31 by omega), tn_nI (show jn < 2 ^ 31 by omega)]; with_reducible exact hP) | contradiction | (simp only [s_forge, fgr, fgB, fgT, iF_t c1, iF_t c2, iF_t c3, iF_t c4, iF_f c5, iF_f c6, iF_f (show ¬ w = 1 from c6), tn_nI (show jb < 2 ^ 31 by omega), tn_nI (show jm0 < 2 ^ 31 by omega), tn_nI (show jn < 2 ^ 31 by omega)]; exact hP) | exact hP) hS dX5_forge_77
            ·
              refine lv_aload_n hx hb dX5_forge_66 rfl (lv_at hl 1 rfl) ?_
              refine g_get (v := .int (iF (wh P M (tn (U jb)) jn = jm0) (-9) (e2 M (bst (thx P M (tn (U jb)) jn jm0) (M * M))))) hx hb hts ixX5_forge_X5 hown hK hP 0 rfl rfl 16 (by decide) lkX5_forge_137 rfl dX5_forge_67 ?_
              refine lv_goto (tgt := 77) hx hb dX5_forge_70 (by decide) ?_
              exact hret _ _ _ _ _ ((Classical.em (wh P M (tn (U jb)) jn = jm0)).elim (fun hq9 => by simp only [s_forge, fgr, fgB, fgT, iF_t c1, iF_t c2, iF_t c3, iF_t c4, iF_f c5, iF_t c6, iF_t (show w = 1 from c6), tn_nI (show jb < 2 ^ 31 by omega), tn_nI (show jm0 < 2 ^ 31 by omega), tn_nI (show jn < 2 ^ 31 by omega), iF_t hq9]) (fun hq9 => by simp only [s_forge, fgr, fgB, fgT, iF_t c1, iF_t c2, iF_t c3, iF_t c4, iF_f c5, iF_t c6, iF_t (show w = 1 from c6), tn_nI (show jb < 2 ^ 31 by omega), tn_nI (show jm0 < 2 ^ 31 by omega), tn_nI (show jn < 2 ^ 31 by omega), iF_f hq9])) (by first | with_reducible exact hP | (simp only [s_forge, fgr, fgB, fgT, iF_t c1, iF_t c2, iF_t c3, iF_t c4, iF_f c5, iF_t c6, iF_t (show w = 1 from c6), tn_nI (show jb < 2 ^ 31 by omega), tn_nI (show jm0 < 2 ^ 31 by omega), tn_nI (show jn < 2 ^ 31 by omega)]; with_reducible exact hP) | contradiction | (simp only [s_forge, fgr, fgB, fgT, iF_t c1, iF_t c2, iF_t c3, iF_t c4, iF_f c5, iF_t c6, iF_t (show w = 1 from c6), tn_nI (show jb < 2 ^ 31 by omega), tn_nI (show jm0 < 2 ^ 31 by omega), tn_nI (show jn < 2 ^ 31 by omega)]; exact hP) | exact hP) hS dX5_forge_77
          ·
            refine lv_iload hx hb dX5_forge_55 (lv_at hl 0 rfl) ?_
            refine lv_goto (tgt := 77) hx hb dX5_forge_57 (by decide) ?_
            exact hret _ _ _ _ _ ((Classical.em (wh P M (tn (U jb)) jn = jm0)).elim (fun hq9 => by simp only [s_forge, fgr, fgB, fgT, iF_t c1, iF_t c2, iF_t c3, iF_t c4, iF_t c5, tn_nI (show jb < 2 ^ 31 by omega), tn_nI (show jm0 < 2 ^ 31 by omega), tn_nI (show jn < 2 ^ 31 by omega), iF_t hq9]) (fun hq9 => by simp only [s_forge, fgr, fgB, fgT, iF_t c1, iF_t c2, iF_t c3, iF_t c4, iF_t c5, tn_nI (show jb < 2 ^ 31 by omega), tn_nI (show jm0 < 2 ^ 31 by omega), tn_nI (show jn < 2 ^ 31 by omega), iF_f hq9])) (by first | with_reducible exact hP | (simp only [s_forge, fgr, fgB, fgT, iF_t c1, iF_t c2, iF_t c3, iF_t c4, iF_t c5, tn_nI (show jb < 2 ^ 31 by omega), tn_nI (show jm0 < 2 ^ 31 by omega), tn_nI (show jn < 2 ^ 31 by omega)]; with_reducible exact hP) | contradiction | (simp only [s_forge, fgr, fgB, fgT, iF_t c1, iF_t c2, iF_t c3, iF_t c4, iF_t c5, tn_nI (show jb < 2 ^ 31 by omega), tn_nI (show jm0 < 2 ^ 31 by omega), tn_nI (show jn < 2 ^ 31 by omega)]; exact hP) | exact hP) hS dX5_forge_77
        ·
          refine lv_bipush (v := (-2)) hx hb dX5_forge_38 (by decide) ?_
          exact hret _ _ _ _ _ (by first | with_reducible rfl | (simp only [s_forge, fgr, fgB, fgT, iF_t c1, iF_t c2, iF_t c3, iF_f c4, tn_nI (show jb < 2 ^ 31 by omega), tn_nI (show jm0 < 2 ^ 31 by omega), tn_nI (show jn < 2 ^ 31 by omega)]; done) | contradiction) (by first | with_reducible exact hP | (simp only [s_forge, fgr, fgB, fgT, iF_t c1, iF_t c2, iF_t c3, iF_f c4, tn_nI (show jb < 2 ^ 31 by omega), tn_nI (show jm0 < 2 ^ 31 by omega), tn_nI (show jn < 2 ^ 31 by omega)]; with_reducible exact hP) | contradiction | (simp only [s_forge, fgr, fgB, fgT, iF_t c1, iF_t c2, iF_t c3, iF_f c4, tn_nI (show jb < 2 ^ 31 by omega), tn_nI (show jm0 < 2 ^ 31 by omega), tn_nI (show jn < 2 ^ 31 by omega)]; exact hP) | exact hP) hS dX5_forge_40
    ·
      refine lv_iconst (v := (-1)) hx hb dX5_forge_16 (by decide) ?_
      exact hret _ _ _ _ _ (by first | with_reducible rfl | (simp only [s_forge, fgr, fgB, fgT, iF_t c1, iF_f c2, tn_nI (show jb < 2 ^ 31 by omega)]; done) | contradiction) (by first | with_reducible exact hP | (simp only [s_forge, fgr, fgB, fgT, iF_t c1, iF_f c2, tn_nI (show jb < 2 ^ 31 by omega)]; with_reducible exact hP) | contradiction | (simp only [s_forge, fgr, fgB, fgT, iF_t c1, iF_f c2, tn_nI (show jb < 2 ^ 31 by omega)]; exact hP) | exact hP) hS dX5_forge_17
