theorem ixX4_forge_X4 : ∀ w ∈ wsX40, w ∈ wsX4_forge := fun _ h => List.mem_cons_of_mem _ (List.mem_append_left _ (List.mem_append_right _ h))
theorem lkX4_forge_12 : Cond.fieldLink RX4 12 (TX4 0).1 (TX4 0).2.1 (TX4 0).2.2.1 ∈ wsX4_forge := List.mem_of_getElem? (i := 1) rfl
theorem lkX4_forge_18 : Cond.fieldLink RX4 18 (TX4 1).1 (TX4 1).2.1 (TX4 1).2.2.1 ∈ wsX4_forge := List.mem_of_getElem? (i := 2) rfl
theorem ixX4_forge_X2 : ∀ w ∈ wsX20, w ∈ wsX4_forge := fun _ h => List.mem_cons_of_mem _ (List.mem_append_right _ h)
set_option maxHeartbeats 4000000 in
set_option maxRecDepth 100000 in
theorem kX4_forge (l : Launch) (G : Gl) (x : Nat) (st : Nat) (tr : Nat) (ra : Nat) (sa : Nat) (R : Nat) (tc : Int32) (fl : Int32) (ap : Nat) (ak : Nat) (ao : Nat) (M : Nat) (B : Nat) (P : Nat → Int32) (K : Nat → Int32) (U : Nat → Int32) (tp : Nat) (tk : Nat) (to : Nat) (tM : Int32) (tB : Int32) (P2 : Nat → Int32) (K2 : Nat → Int32) (U2 : Nat → Int32) (b : Int32) (m0 : Int32) (n : Int32) (w : Int32) (hM : M ≤ 5) (hB : B ≤ 4) (hz : ∀ j, j < M → P (j * 5 + j) = nI 0) (hU : ∀ b, b < B → vp_in (U b) M) (h9 : P9 P M) : Wt l G yX4_forge wsX4_forge ({ frames := 4, cells := 0, slots := 0, locals := 92 } : Room) [.ref x, .int b, .int m0, .int n, .int w] [(x, .inr (4, [.ref st, .ref tr, .ref ra, .int (nI R), .ref sa, .int tc, .int fl])), (st, .inr (2, [.ref ap, .ref ak, .ref ao, .int (nI M), .int (nI B)])), (ap, aI G 25 P), (ak, aI G 4 K), (ao, aI G 4 U), (tr, .inr (2, [.ref tp, .ref tk, .ref to, .int tM, .int tB])), (tp, aI G 25 P2), (tk, aI G 4 K2), (to, aI G 4 U2)] [(x, .inr (4, [.ref st, .ref tr, .ref ra, .int (nI R), .ref sa, .int tc, .int fl])), (st, .inr (2, [.ref ap, .ref ak, .ref ao, .int (nI M), .int (nI B)])), (ap, aI G 25 P), (ak, aI G 4 K), (ao, aI G 4 U), (tr, .inr (2, [.ref tp, .ref tk, .ref to, .int (fgG B M P U b m0 n w (nI M) tM), .int (fgG B M P U b m0 n w (nI B) tB)])), (tp, aI G 25 (fgG B M P U b m0 n w P P2)), (tk, aI G 4 (fgG B M P U b m0 n w K K2)), (to, aI G 4 (fgG B M P U b m0 n w U U2))] (some (.int (s_forge B M P U b m0 n w))) := by
  refine Wt.ofI (cc := cX4_forge) (maxL := 12) (by decide) rfl (Nat.le_of_ble_eq_true rfl) ?_
  intro p e s m below meth c Q A ls hE hP hK hD hS hl hret
  obtain ⟨hx, hb, hml, hown, hts⟩ := id hE
  have hl : lv_has ls 12 [(0, .ref x), (1, .int b), (2, .int m0), (3, .int n), (4, .int w)] := hl
  refine lv_aload_n hx hb dX4_forge_0 rfl (lv_at hl 0 rfl) ?_
  refine g_get (v := .ref st) hx hb hts ixX4_forge_X4 hown hK hP 0 rfl rfl 0 (by decide) lkX4_forge_12 rfl dX4_forge_1 ?_
  refine lv_iload_n hx hb dX4_forge_4 rfl (lv_at hl 1 rfl) ?_
  refine rdV (As := [.int b]) (rest := []) (ci := 2) (q0 := 1) hE (kX2_hasBoy l G st ap ak ao M B b hB) (cwV 1 hts gX4_forge_X2_hasBoy rfl rfl rfl (by decide +kernel) ⟨Nat.le_of_ble_eq_true rfl, Nat.le_of_ble_eq_true rfl⟩) hP hK [1] rfl rfl rfl rfl hl.1 rfl (Nat.le_of_ble_eq_true rfl) dX4_forge_5 ⟨Nat.zero_le _, Nat.zero_le _⟩ ?_
  refine W.eq (g2 := F0 m 8 ls [.int (bI (vp_in b B))]) rfl ?_
  refine bz_eq (tgt := 22) hx hb dX4_forge_8 (by decide) (fun c1 => ?_) (fun c1 => ?_)
  ·
    refine lv_iconst (v := (-1)) hx hb dX4_forge_22 (by decide) ?_
    exact hret _ _ _ _ _ (by first | with_reducible rfl | (simp only [s_forge, fgr, fgG, iF_f c1]; done) | contradiction) (by first | with_reducible exact hP | (simp only [s_forge, fgr, fgG, iF_f c1]; with_reducible exact hP) | contradiction | (simp only [s_forge, fgr, fgG, iF_f c1]; exact hP) | exact hP) hS dX4_forge_23
  ·
    obtain ⟨jb, hjb, rfl⟩ := vp_in_of c1 (by omega)
    refine lv_aload_n hx hb dX4_forge_11 rfl (lv_at hl 0 rfl) ?_
    refine g_get (v := .ref st) hx hb hts ixX4_forge_X4 hown hK hP 0 rfl rfl 0 (by decide) lkX4_forge_12 rfl dX4_forge_12 ?_
    refine lv_iload_n hx hb dX4_forge_15 rfl (lv_at hl 2 rfl) ?_
    refine rdV (As := [.int m0]) (rest := []) (ci := 2) (q0 := 1) hE (kX2_hasMaster l G st ap ak ao M B m0 hM) (cwV 1 hts gX4_forge_X2_hasMaster rfl rfl rfl (by decide +kernel) ⟨Nat.le_of_ble_eq_true rfl, Nat.le_of_ble_eq_true rfl⟩) hP hK [1] rfl rfl rfl rfl hl.1 rfl (Nat.le_of_ble_eq_true rfl) dX4_forge_16 ⟨Nat.zero_le _, Nat.zero_le _⟩ ?_
    refine W.eq (g2 := F0 m 19 ls [.int (bI (vp_in m0 M))]) rfl ?_
    refine bz_ne (tgt := 24) hx hb dX4_forge_19 (by decide) (fun c2 => ?_) (fun c2 => ?_)
    ·
      obtain ⟨jm0, hjm0, rfl⟩ := vp_in_of c2 (by omega)
      refine lv_iload_n hx hb dX4_forge_24 rfl (lv_at hl 3 rfl) ?_
      refine lv_bipush (v := nI 20) hx hb dX4_forge_25 (by decide) ?_
      refine rdS (As := [.int n, .int (nI 20)]) (rest := []) hE (kX4_isWithin l G n 20 (by first | omega | assumption | exact hU _ (by omega) | exact hz _ (by omega) | exact hK3 _ (by omega) | exact h9 _ _ (by omega) (by omega))) (va_cwS 2 hts gX4_forge_X4_isWithin rfl rfl rfl (by decide +kernel) ⟨Nat.le_of_ble_eq_true rfl, Nat.le_of_ble_eq_true rfl⟩) hP hK [] rfl rfl hl.1 rfl (Nat.le_of_ble_eq_true rfl) dX4_forge_27 ⟨Nat.zero_le _, Nat.zero_le _⟩ ?_
      refine W.eq (g2 := F0 m 30 ls [.int (bI (vp_in n (20 + 1)))]) rfl ?_
      refine bz_eq (tgt := 42) hx hb dX4_forge_30 (by decide) (fun c3 => ?_) (fun c3 => ?_)
      ·
        refine lv_bipush (v := (-2)) hx hb dX4_forge_42 (by decide) ?_
        exact hret _ _ _ _ _ (by first | with_reducible rfl | (simp only [s_forge, fgr, fgG, iF_t c1, iF_t c2, iF_f c3, tn_nI (show jb < 2 ^ 31 by omega), tn_nI (show jm0 < 2 ^ 31 by omega)]; done) | contradiction) (by first | with_reducible exact hP | (simp only [s_forge, fgr, fgG, iF_t c1, iF_t c2, iF_f c3, tn_nI (show jb < 2 ^ 31 by omega), tn_nI (show jm0 < 2 ^ 31 by omega)]; with_reducible exact hP) | contradiction | (simp only [s_forge, fgr, fgG, iF_t c1, iF_t c2, iF_f c3, tn_nI (show jb < 2 ^ 31 by omega), tn_nI (show jm0 < 2 ^ 31 by omega)]; exact hP) | exact hP) hS dX4_forge_44
      ·
        obtain ⟨jn, hjn, rfl⟩ := vp_in_of c3 (by omega)
        refine lv_iload hx hb dX4_forge_33 (lv_at hl 4 rfl) ?_
        refine lv_iconst (v := nI 2) hx hb dX4_forge_35 (by decide) ?_
        refine rdS (As := [.int w, .int (nI 2)]) (rest := []) hE (kX4_isWithin l G w 2 (by first | omega | assumption | exact hU _ (by omega) | exact hz _ (by omega) | exact hK3 _ (by omega) | exact h9 _ _ (by omega) (by omega))) (va_cwS 2 hts gX4_forge_X4_isWithin rfl rfl rfl (by decide +kernel) ⟨Nat.le_of_ble_eq_true rfl, Nat.le_of_ble_eq_true rfl⟩) hP hK [] rfl rfl hl.1 rfl (Nat.le_of_ble_eq_true rfl) dX4_forge_36 ⟨Nat.zero_le _, Nat.zero_le _⟩ ?_
        refine W.eq (g2 := F0 m 39 ls [.int (bI (vp_in w (2 + 1)))]) rfl ?_
        refine bz_ne (tgt := 45) hx hb dX4_forge_39 (by decide) (fun c4 => ?_) (fun c4 => ?_)
        ·
          refine lv_aload_n hx hb dX4_forge_45 rfl (lv_at hl 0 rfl) ?_
          refine g_get (v := .ref st) hx hb hts ixX4_forge_X4 hown hK hP 0 rfl rfl 0 (by decide) lkX4_forge_12 rfl dX4_forge_46 ?_
          refine lv_iload_n hx hb dX4_forge_49 rfl (lv_at hl 1 rfl) ?_
          refine lv_iload_n hx hb dX4_forge_50 rfl (lv_at hl 3 rfl) ?_
          refine rdV (As := [.int (nI jb), .int (nI jn)]) (rest := []) (ci := 2) (q0 := 1) hE (kX2_masterBehind l G st ap ak ao M B P U jb jn hM (by first | omega | assumption | exact hU _ (by omega) | exact hz _ (by omega) | exact hK3 _ (by omega) | exact h9 _ _ (by omega) (by omega)) (by first | omega | assumption | exact hU _ (by omega) | exact hz _ (by omega) | exact hK3 _ (by omega) | exact h9 _ _ (by omega) (by omega)) (by first | omega | assumption | exact hU _ (by omega) | exact hz _ (by omega) | exact hK3 _ (by omega) | exact h9 _ _ (by omega) (by omega)) hz) (cwV 2 hts gX4_forge_X2_masterBehind rfl rfl rfl (by decide +kernel) ⟨Nat.le_of_ble_eq_true rfl, Nat.le_of_ble_eq_true rfl⟩) hP hK [1, 2, 4] rfl rfl rfl rfl hl.1 rfl (Nat.le_of_ble_eq_true rfl) dX4_forge_51 ⟨Nat.zero_le _, Nat.zero_le _⟩ ?_
          refine W.eq (g2 := F0 m 54 ls [.int (nI (wh P M (tn (U jb)) jn))]) rfl ?_
          have hul := tn_lt (hU jb hjb) (by omega)
          have hwl := wh_lt (P := P) hul jn
          refine lv_iload_n hx hb dX4_forge_54 rfl (lv_at hl 2 rfl) ?_
          refine ic_ne (tgt := 70) hx hb (by omega) (by omega) dX4_forge_55 (by decide) (fun c5 => ?_) (fun c5 => ?_)
          ·
            refine lv_bipush (v := (-9)) hx hb dX4_forge_70 (by decide) ?_
            refine lv_istore (lv' := [(5, .int (-9)), (0, .ref x), (1, .int (nI jb)), (2, .int (nI jm0)), (3, .int (nI jn)), (4, .int w)]) hx hb dX4_forge_72 hl (by decide) rfl (fun ls hl => ?_)
            refine lv_bipush (v := (-9)) hx hb dX4_forge_74 (by decide) ?_
            refine lv_istore (lv' := [(6, .int (-9)), (5, .int (-9)), (0, .ref x), (1, .int (nI jb)), (2, .int (nI jm0)), (3, .int (nI jn)), (4, .int w)]) hx hb dX4_forge_76 hl (by decide) rfl (fun ls hl => ?_)
            refine lv_bipush (v := (-9)) hx hb dX4_forge_78 (by decide) ?_
            refine lv_istore (lv' := [(7, .int (-9)), (6, .int (-9)), (5, .int (-9)), (0, .ref x), (1, .int (nI jb)), (2, .int (nI jm0)), (3, .int (nI jn)), (4, .int w)]) hx hb dX4_forge_80 hl (by decide) rfl (fun ls hl => ?_)
            refine lv_aload_n hx hb dX4_forge_82 rfl (lv_at hl 3 rfl) ?_
            refine g_get (v := .ref tr) hx hb hts ixX4_forge_X4 hown hK hP 0 rfl rfl 1 (by decide) lkX4_forge_18 rfl dX4_forge_83 ?_
            refine lv_aload_n hx hb dX4_forge_86 rfl (lv_at hl 3 rfl) ?_
            refine g_get (v := .ref st) hx hb hts ixX4_forge_X4 hown hK hP 0 rfl rfl 0 (by decide) lkX4_forge_12 rfl dX4_forge_87 ?_
            refine wtV (As := [.ref st]) (rest := []) (ci := 2) (q0 := 5) hE (kX2_takeOver l G tr tp tk to tM tB P2 K2 U2 st ap ak ao M B P K U ) (cwV 1 hts gX4_forge_X2_takeOver rfl rfl rfl (by decide +kernel) ⟨Nat.le_of_ble_eq_true rfl, Nat.le_of_ble_eq_true rfl⟩) hP hK hD hS [5, 6, 7, 8, 1, 2, 3, 4] (by decide) rfl (Eq.trans (b := [tr, tp, tk, to, st, ap, ak, ao]) rfl rfl) (W1 := [(x, .inr (4, [.ref st, .ref tr, .ref ra, .int (nI R), .ref sa, .int tc, .int fl])), (st, .inr (2, [.ref ap, .ref ak, .ref ao, .int (nI M), .int (nI B)])), (ap, aI G 25 P), (ak, aI G 4 K), (ao, aI G 4 U), (tr, .inr (2, [.ref tp, .ref tk, .ref to, .int (nI M), .int (nI B)])), (tp, aI G 25 P), (tk, aI G 4 K), (to, aI G 4 U)]) rfl rfl rfl rfl hl.1 rfl (Nat.le_of_ble_eq_true rfl) dX4_forge_90 ⟨Nat.zero_le _, Nat.zero_le _⟩ (fun H locs hP hD hS => ?_)
            refine W.eq (g2 := F0 m 93 ls []) rfl ?_
            refine lv_iconst (v := nI 0) hx hb dX4_forge_93 (by decide) ?_
            refine lv_istore (lv' := [(8, .int (nI 0)), (7, .int (-9)), (6, .int (-9)), (5, .int (-9)), (0, .ref x), (1, .int (nI jb)), (2, .int (nI jm0)), (3, .int (nI jn)), (4, .int w)]) hx hb dX4_forge_94 hl (by decide) rfl (fun ls hl => ?_)
            have loop1 : ∀ (d i : Nat) (H : Heap) (locs : List Loc) (ls : Array Slot), M < i + d → i ≤ M → va_P G.1 vwCl [(x, .inr (4, [.ref st, .ref tr, .ref ra, .int (nI R), .ref sa, .int tc, .int fl])), (st, .inr (2, [.ref ap, .ref ak, .ref ao, .int (nI M), .int (nI B)])), (ap, aI G 25 P), (ak, aI G 4 K), (ao, aI G 4 U), (tr, .inr (2, [.ref tp, .ref tk, .ref to, .int (nI M), .int (nI B)])), (tp, aI G 25 P), (tk, aI G 4 K), (to, aI G 4 U)] H → va_D A [(x, .inr (4, [.ref st, .ref tr, .ref ra, .int (nI R), .ref sa, .int tc, .int fl])), (st, .inr (2, [.ref ap, .ref ak, .ref ao, .int (nI M), .int (nI B)])), (ap, aI G 25 P), (ak, aI G 4 K), (ao, aI G 4 U), (tr, .inr (2, [.ref tp, .ref tk, .ref to, .int (nI M), .int (nI B)])), (tp, aI G 25 P), (tk, aI G 4 K), (to, aI G 4 U)] → va_S A s.heap H locs → lv_has ls 12 [(8, .int (nI i)), (7, .int (e3 M (bst (thx P M (tn (U jb)) jn jm0) (i * M)))), (6, .int (e2 M (bst (thx P M (tn (U jb)) jn jm0) (i * M)))), (5, .int (e1 (bst (thx P M (tn (U jb)) jn jm0) (i * M)))), (0, .ref x), (1, .int (nI jb)), (2, .int (nI jm0)), (3, .int (nI jn)), (4, .int w)] → W p l e ({ frames := 4, cells := 0, slots := 0, locals := 92 } : Room) s m ([.ref x, .int (nI jb), .int (nI jm0), .int (nI jn), .int w] : List Value).toArray below meth c H locs 0 0 Q (F0 m 96 ls []) := by
              intro d
              induction d with
              | zero =>
                intro i H locs ls h1 h2
                omega
              | succ d ih1 =>
                intro i H locs ls hdi hbi hP hD hS hl
                refine lv_iload hx hb dX4_forge_96 (lv_at hl 0 rfl) ?_
                refine lv_aload_n hx hb dX4_forge_98 rfl (lv_at hl 4 rfl) ?_
                refine g_get (v := .ref st) hx hb hts ixX4_forge_X4 hown hK hP 0 rfl rfl 0 (by decide) lkX4_forge_12 rfl dX4_forge_99 ?_
                refine g_getN (v := .int (nI M)) hx hb hts ixX4_forge_X2 hown hK hP 1 rfl rfl 3 (by decide) nkX4_119 rfl dX4_forge_102 ?_
                refine ic_ge (tgt := 225) hx hb (by omega) (by omega) dX4_forge_105 (by decide) (fun c6 => ?_) (fun c6 => ?_)
                ·
                  obtain rfl : M = i := by omega
                  refine lv_iload hx hb dX4_forge_225 (lv_at hl 8 rfl) ?_
                  refine lv_if_ne (tgt := 235) hx hb dX4_forge_227 (by decide) (fun c7 => ?_) (fun c7 => ?_)
                  ·
                    refine lv_iload hx hb dX4_forge_235 (lv_at hl 8 rfl) ?_
                    refine lv_iconst (v := nI 1) hx hb dX4_forge_237 (by decide) ?_
                    refine lv_icmp_ne (tgt := 246) hx hb dX4_forge_238 (by decide) (fun c8 => ?_) (fun c8 => ?_)
                    ·
                      refine lv_iload hx hb dX4_forge_246 (lv_at hl 1 rfl) ?_
                      exact hret _ _ _ _ _ (by first | with_reducible rfl | (simp only [s_forge, fgr, fgG, iF_t c1, iF_t c2, iF_t c3, iF_t c4, iF_f c5, iF_f (Nat.not_lt.mpr c6), iF_f c7, iF_f c8, iF_f (show ¬ w = 1 from c8), tn_nI (show jb < 2 ^ 31 by omega), tn_nI (show jm0 < 2 ^ 31 by omega), tn_nI (show jn < 2 ^ 31 by omega)]; done) | contradiction) (by first | with_reducible exact hP | (simp only [s_forge, fgr, fgG, iF_t c1, iF_t c2, iF_t c3, iF_t c4, iF_f c5, iF_f (Nat.not_lt.mpr c6), iF_f c7, iF_f c8, iF_f (show ¬ w = 1 from c8), tn_nI (show jb < 2 ^ 31 by omega), tn_nI (show jm0 < 2 ^ 31 by omega), tn_nI (show jn < 2 ^ 31 by omega)]; with_reducible exact hP) | contradiction | (simp only [s_forge, fgr, fgG, iF_t c1, iF_t c2, iF_t c3, iF_t c4, iF_f c5, iF_f (Nat.not_lt.mpr c6), iF_f c7, iF_f c8, iF_f (show ¬ w = 1 from c8), tn_nI (show jb < 2 ^ 31 by omega), tn_nI (show jm0 < 2 ^ 31 by omega), tn_nI (show jn < 2 ^ 31 by omega)]; exact hP) | exact hP) hS dX4_forge_248
                    ·
                      refine lv_iload hx hb dX4_forge_241 (lv_at hl 2 rfl) ?_
                      refine lv_goto (tgt := 248) hx hb dX4_forge_243 (by decide) ?_
                      exact hret _ _ _ _ _ (by first | with_reducible rfl | (simp only [s_forge, fgr, fgG, iF_t c1, iF_t c2, iF_t c3, iF_t c4, iF_f c5, iF_f (Nat.not_lt.mpr c6), iF_f c7, iF_t c8, iF_t (show w = 1 from c8), tn_nI (show jb < 2 ^ 31 by omega), tn_nI (show jm0 < 2 ^ 31 by omega), tn_nI (show jn < 2 ^ 31 by omega)]; done) | contradiction) (by first | with_reducible exact hP | (simp only [s_forge, fgr, fgG, iF_t c1, iF_t c2, iF_t c3, iF_t c4, iF_f c5, iF_f (Nat.not_lt.mpr c6), iF_f c7, iF_t c8, iF_t (show w = 1 from c8), tn_nI (show jb < 2 ^ 31 by omega), tn_nI (show jm0 < 2 ^ 31 by omega), tn_nI (show jn < 2 ^ 31 by omega)]; with_reducible exact hP) | contradiction | (simp only [s_forge, fgr, fgG, iF_t c1, iF_t c2, iF_t c3, iF_t c4, iF_f c5, iF_f (Nat.not_lt.mpr c6), iF_f c7, iF_t c8, iF_t (show w = 1 from c8), tn_nI (show jb < 2 ^ 31 by omega), tn_nI (show jm0 < 2 ^ 31 by omega), tn_nI (show jn < 2 ^ 31 by omega)]; exact hP) | exact hP) hS dX4_forge_248
                  ·
                    refine lv_iload hx hb dX4_forge_230 (lv_at hl 3 rfl) ?_
                    refine lv_goto (tgt := 248) hx hb dX4_forge_232 (by decide) ?_
                    exact hret _ _ _ _ _ (by first | with_reducible rfl | (simp only [s_forge, fgr, fgG, iF_t c1, iF_t c2, iF_t c3, iF_t c4, iF_f c5, iF_f (Nat.not_lt.mpr c6), iF_t c7, tn_nI (show jb < 2 ^ 31 by omega), tn_nI (show jm0 < 2 ^ 31 by omega), tn_nI (show jn < 2 ^ 31 by omega)]; done) | contradiction) (by first | with_reducible exact hP | (simp only [s_forge, fgr, fgG, iF_t c1, iF_t c2, iF_t c3, iF_t c4, iF_f c5, iF_f (Nat.not_lt.mpr c6), iF_t c7, tn_nI (show jb < 2 ^ 31 by omega), tn_nI (show jm0 < 2 ^ 31 by omega), tn_nI (show jn < 2 ^ 31 by omega)]; with_reducible exact hP) | contradiction | (simp only [s_forge, fgr, fgG, iF_t c1, iF_t c2, iF_t c3, iF_t c4, iF_f c5, iF_f (Nat.not_lt.mpr c6), iF_t c7, tn_nI (show jb < 2 ^ 31 by omega), tn_nI (show jm0 < 2 ^ 31 by omega), tn_nI (show jn < 2 ^ 31 by omega)]; exact hP) | exact hP) hS dX4_forge_248
                ·
                  refine lv_iconst (v := nI 0) hx hb dX4_forge_108 (by decide) ?_
                  refine lv_istore (lv' := [(9, .int (nI 0)), (8, .int (nI i)), (7, .int (e3 M (bst (thx P M (tn (U jb)) jn jm0) (i * M)))), (6, .int (e2 M (bst (thx P M (tn (U jb)) jn jm0) (i * M)))), (5, .int (e1 (bst (thx P M (tn (U jb)) jn jm0) (i * M)))), (0, .ref x), (1, .int (nI jb)), (2, .int (nI jm0)), (3, .int (nI jn)), (4, .int w)]) hx hb dX4_forge_109 hl (by decide) rfl (fun ls hl => ?_)
                  have loop2 : ∀ (d j : Nat) (H : Heap) (locs : List Loc) (ls : Array Slot), M < j + d → j ≤ M → va_P G.1 vwCl [(x, .inr (4, [.ref st, .ref tr, .ref ra, .int (nI R), .ref sa, .int tc, .int fl])), (st, .inr (2, [.ref ap, .ref ak, .ref ao, .int (nI M), .int (nI B)])), (ap, aI G 25 P), (ak, aI G 4 K), (ao, aI G 4 U), (tr, .inr (2, [.ref tp, .ref tk, .ref to, .int (nI M), .int (nI B)])), (tp, aI G 25 P), (tk, aI G 4 K), (to, aI G 4 U)] H → va_D A [(x, .inr (4, [.ref st, .ref tr, .ref ra, .int (nI R), .ref sa, .int tc, .int fl])), (st, .inr (2, [.ref ap, .ref ak, .ref ao, .int (nI M), .int (nI B)])), (ap, aI G 25 P), (ak, aI G 4 K), (ao, aI G 4 U), (tr, .inr (2, [.ref tp, .ref tk, .ref to, .int (nI M), .int (nI B)])), (tp, aI G 25 P), (tk, aI G 4 K), (to, aI G 4 U)] → va_S A s.heap H locs → lv_has ls 12 [(9, .int (nI j)), (8, .int (nI i)), (7, .int (e3 M (bst (thx P M (tn (U jb)) jn jm0) (i * M + j)))), (6, .int (e2 M (bst (thx P M (tn (U jb)) jn jm0) (i * M + j)))), (5, .int (e1 (bst (thx P M (tn (U jb)) jn jm0) (i * M + j)))), (0, .ref x), (1, .int (nI jb)), (2, .int (nI jm0)), (3, .int (nI jn)), (4, .int w)] → W p l e ({ frames := 4, cells := 0, slots := 0, locals := 92 } : Room) s m ([.ref x, .int (nI jb), .int (nI jm0), .int (nI jn), .int w] : List Value).toArray below meth c H locs 0 0 Q (F0 m 111 ls []) := by
                    intro d
                    induction d with
                    | zero =>
                      intro j H locs ls h1 h2
                      omega
                    | succ d ih2 =>
                      intro j H locs ls hdj hbj hP hD hS hl
                      refine lv_iload hx hb dX4_forge_111 (lv_at hl 0 rfl) ?_
                      refine lv_aload_n hx hb dX4_forge_113 rfl (lv_at hl 5 rfl) ?_
                      refine g_get (v := .ref st) hx hb hts ixX4_forge_X4 hown hK hP 0 rfl rfl 0 (by decide) lkX4_forge_12 rfl dX4_forge_114 ?_
                      refine g_getN (v := .int (nI M)) hx hb hts ixX4_forge_X2 hown hK hP 1 rfl rfl 3 (by decide) nkX4_119 rfl dX4_forge_117 ?_
                      refine ic_ge (tgt := 219) hx hb (by omega) (by omega) dX4_forge_120 (by decide) (fun c9 => ?_) (fun c9 => ?_)
                      ·
                        obtain rfl : M = j := by omega
                        refine lv_iinc (v := nI (i + 1)) (lv' := [(8, .int (nI (i + 1))), (9, .int (nI M)), (7, .int (e3 M (bst (thx P M (tn (U jb)) jn jm0) (i * M + M)))), (6, .int (e2 M (bst (thx P M (tn (U jb)) jn jm0) (i * M + M)))), (5, .int (e1 (bst (thx P M (tn (U jb)) jn jm0) (i * M + M)))), (0, .ref x), (1, .int (nI jb)), (2, .int (nI jm0)), (3, .int (nI jn)), (4, .int w)]) hx hb dX4_forge_219 hl (k := 1) rfl (show nI i + Int32.ofInt 1 = nI (i + 1) from nI_add _ 1) (by decide) rfl (fun ls hl => ?_)
                        refine lv_goto (tgt := 96) hx hb dX4_forge_222 (by decide) ?_
                        have hl10 : lv_has ls 12 [(8, .int (nI (i + 1))), (7, .int (e3 M (bst (thx P M (tn (U jb)) jn jm0) ((i + 1) * M)))), (6, .int (e2 M (bst (thx P M (tn (U jb)) jn jm0) ((i + 1) * M)))), (5, .int (e1 (bst (thx P M (tn (U jb)) jn jm0) ((i + 1) * M)))), (0, .ref x), (1, .int (nI jb)), (2, .int (nI jm0)), (3, .int (nI jn)), (4, .int w)] := by
                          rw [show (e3 M (bst (thx P M (tn (U jb)) jn jm0) ((i + 1) * M))) = (e3 M (bst (thx P M (tn (U jb)) jn jm0) (i * M + M))) from by rw [Nat.succ_mul]]
                          rw [show (e2 M (bst (thx P M (tn (U jb)) jn jm0) ((i + 1) * M))) = (e2 M (bst (thx P M (tn (U jb)) jn jm0) (i * M + M))) from by rw [Nat.succ_mul]]
                          rw [show (e1 (bst (thx P M (tn (U jb)) jn jm0) ((i + 1) * M))) = (e1 (bst (thx P M (tn (U jb)) jn jm0) (i * M + M))) from by rw [Nat.succ_mul]]
                          exact (lv_sub hl [0, 2, 3, 4, 5, 6, 7, 8, 9] rfl)
                        exact ih1 (i + 1) H locs ls (by omega) (by omega) hP hD hS hl10
                      ·
                        refine lv_aload_n hx hb dX4_forge_123 rfl (lv_at hl 5 rfl) ?_
                        refine lv_iload hx hb dX4_forge_124 (lv_at hl 1 rfl) ?_
                        refine lv_iload hx hb dX4_forge_126 (lv_at hl 0 rfl) ?_
                        refine wtV (As := [.int (nI i), .int (nI j)]) (rest := []) (ci := 4) (q0 := 0) hE (kX4_forgedPence l G x st tr ra sa R tc fl ap ak ao M B P tp tk to i j hM c6 c9 hz h9) (cwV 2 hts gX4_forge_X4_forgedPence rfl rfl rfl (by decide +kernel) ⟨Nat.le_of_ble_eq_true rfl, Nat.le_of_ble_eq_true rfl⟩) hP hK hD hS [0, 1, 2, 5, 6] (by decide) rfl (Eq.trans (b := [x, st, ap, tr, tp]) rfl rfl) (W1 := [(x, .inr (4, [.ref st, .ref tr, .ref ra, .int (nI R), .ref sa, .int tc, .int fl])), (st, .inr (2, [.ref ap, .ref ak, .ref ao, .int (nI M), .int (nI B)])), (ap, aI G 25 P), (ak, aI G 4 K), (ao, aI G 4 U), (tr, .inr (2, [.ref tp, .ref tk, .ref to, .int (nI M), .int (nI B)])), (tp, aI G 25 (fgA P M i j)), (tk, aI G 4 K), (to, aI G 4 U)]) rfl rfl rfl rfl hl.1 rfl (Nat.le_of_ble_eq_true rfl) dX4_forge_128 ⟨Nat.zero_le _, Nat.zero_le _⟩ (fun H locs hP hD hS => ?_)
                        refine W.eq (g2 := F0 m 131 ls [.int (fgv P M i j)]) rfl ?_
                        refine lv_istore (lv' := [(10, .int (fgv P M i j)), (9, .int (nI j)), (8, .int (nI i)), (7, .int (e3 M (bst (thx P M (tn (U jb)) jn jm0) (i * M + j)))), (6, .int (e2 M (bst (thx P M (tn (U jb)) jn jm0) (i * M + j)))), (5, .int (e1 (bst (thx P M (tn (U jb)) jn jm0) (i * M + j)))), (0, .ref x), (1, .int (nI jb)), (2, .int (nI jm0)), (3, .int (nI jn)), (4, .int w)]) hx hb dX4_forge_131 hl (by decide) rfl (fun ls hl => ?_)
                        refine lv_iload hx hb dX4_forge_133 (lv_at hl 0 rfl) ?_
                        refine lv_bipush (v := (-9)) hx hb dX4_forge_135 (by decide) ?_
                        refine lv_icmp_eq (tgt := 158) hx hb dX4_forge_137 (by decide) (fun c11 => ?_) (fun c11 => ?_)
                        ·
                          refine lv_iconst (v := nI 0) hx hb dX4_forge_158 (by decide) ?_
                          refine lv_istore (lv' := [(11, .int (nI 0)), (10, .int (fgv P M i j)), (9, .int (nI j)), (8, .int (nI i)), (7, .int (e3 M (bst (thx P M (tn (U jb)) jn jm0) (i * M + j)))), (6, .int (e2 M (bst (thx P M (tn (U jb)) jn jm0) (i * M + j)))), (5, .int (e1 (bst (thx P M (tn (U jb)) jn jm0) (i * M + j)))), (0, .ref x), (1, .int (nI jb)), (2, .int (nI jm0)), (3, .int (nI jn)), (4, .int w)]) hx hb dX4_forge_159 hl (by decide) rfl (fun ls hl => ?_)
                          refine lv_iload hx hb dX4_forge_161 (lv_at hl 0 rfl) ?_
                          refine iz_eq (tgt := 191) hx hb (by decide) dX4_forge_163 (by decide) (fun c12 => ?_) (fun c12 => ?_)
                          ·
                            skip
                            refine lv_aload_n hx hb dX4_forge_191 rfl (lv_at hl 7 rfl) ?_
                            refine g_get (v := .ref tr) hx hb hts ixX4_forge_X4 hown hK hP 0 rfl rfl 1 (by decide) lkX4_forge_18 rfl dX4_forge_192 ?_
                            refine lv_iload hx hb dX4_forge_195 (lv_at hl 3 rfl) ?_
                            refine lv_iload hx hb dX4_forge_197 (lv_at hl 2 rfl) ?_
                            refine lv_aload_n hx hb dX4_forge_199 rfl (lv_at hl 7 rfl) ?_
                            refine g_get (v := .ref st) hx hb hts ixX4_forge_X4 hown hK hP 0 rfl rfl 0 (by decide) lkX4_forge_12 rfl dX4_forge_200 ?_
                            refine lv_iload hx hb dX4_forge_203 (lv_at hl 3 rfl) ?_
                            refine lv_iload hx hb dX4_forge_205 (lv_at hl 2 rfl) ?_
                            refine rdV (As := [.int (nI i), .int (nI j)]) (rest := [.int (nI j), .int (nI i), .ref tr]) (ci := 2) (q0 := 1) hE (kX2_debt l G st ap ak ao M B P i j (by first | omega | assumption | exact hU _ (by omega) | exact hz _ (by omega) | exact hK3 _ (by omega) | exact h9 _ _ (by omega) (by omega))) (cwV 2 hts gX4_forge_X2_debt rfl rfl rfl (by decide +kernel) ⟨Nat.le_of_ble_eq_true rfl, Nat.le_of_ble_eq_true rfl⟩) hP hK [1, 2] rfl rfl rfl rfl hl.1 rfl (Nat.le_of_ble_eq_true rfl) dX4_forge_207 ⟨Nat.zero_le _, Nat.zero_le _⟩ ?_
                            refine W.eq (g2 := F0 m 210 ls [.int (P (i * 5 + j)), .int (nI j), .int (nI i), .ref tr]) rfl ?_
                            refine wtV (As := [.int (nI i), .int (nI j), .int (P (i * 5 + j))]) (rest := []) (ci := 2) (q0 := 5) hE (kX2_setDebt l G tr tp tk to (nI M) (nI B) (fgA P M i j) i j (P (i * 5 + j)) (by first | omega | assumption | exact hU _ (by omega) | exact hz _ (by omega) | exact hK3 _ (by omega) | exact h9 _ _ (by omega) (by omega))) (cwV 3 hts gX4_forge_X2_setDebt rfl rfl rfl (by decide +kernel) ⟨Nat.le_of_ble_eq_true rfl, Nat.le_of_ble_eq_true rfl⟩) hP hK hD hS [5, 6] (by decide) rfl (Eq.trans (b := [tr, tp]) rfl rfl) (W1 := [(x, .inr (4, [.ref st, .ref tr, .ref ra, .int (nI R), .ref sa, .int tc, .int fl])), (st, .inr (2, [.ref ap, .ref ak, .ref ao, .int (nI M), .int (nI B)])), (ap, aI G 25 P), (ak, aI G 4 K), (ao, aI G 4 U), (tr, .inr (2, [.ref tp, .ref tk, .ref to, .int (nI M), .int (nI B)])), (tp, aI G 25 (upd (fgA P M i j) (i * 5 + j) (P (i * 5 + j)))), (tk, aI G 4 K), (to, aI G 4 U)]) rfl rfl rfl rfl hl.1 rfl (Nat.le_of_ble_eq_true rfl) dX4_forge_210 ⟨Nat.zero_le _, Nat.zero_le _⟩ (fun H locs hP hD hS => ?_)
                            refine W.eq (g2 := F0 m 213 ls []) rfl ?_
                            have hP : va_P G.1 vwCl [(x, .inr (4, [.ref st, .ref tr, .ref ra, .int (nI R), .ref sa, .int tc, .int fl])), (st, .inr (2, [.ref ap, .ref ak, .ref ao, .int (nI M), .int (nI B)])), (ap, aI G 25 P), (ak, aI G 4 K), (ao, aI G 4 U), (tr, .inr (2, [.ref tp, .ref tk, .ref to, .int (nI M), .int (nI B)])), (tp, aI G 25 P), (tk, aI G 4 K), (to, aI G 4 U)] H := by have h0 := hP; rw [fgA_back P M i j] at h0; exact h0
                            have hD : va_D A [(x, .inr (4, [.ref st, .ref tr, .ref ra, .int (nI R), .ref sa, .int tc, .int fl])), (st, .inr (2, [.ref ap, .ref ak, .ref ao, .int (nI M), .int (nI B)])), (ap, aI G 25 P), (ak, aI G 4 K), (ao, aI G 4 U), (tr, .inr (2, [.ref tp, .ref tk, .ref to, .int (nI M), .int (nI B)])), (tp, aI G 25 P), (tk, aI G 4 K), (to, aI G 4 U)] := by have h0 := hD; rw [fgA_back P M i j] at h0; exact h0
                            refine lv_iinc (v := nI (j + 1)) (lv' := [(9, .int (nI (j + 1))), (11, .int (nI 0)), (10, .int (fgv P M i j)), (8, .int (nI i)), (7, .int (e3 M (bst (thx P M (tn (U jb)) jn jm0) (i * M + j)))), (6, .int (e2 M (bst (thx P M (tn (U jb)) jn jm0) (i * M + j)))), (5, .int (e1 (bst (thx P M (tn (U jb)) jn jm0) (i * M + j)))), (0, .ref x), (1, .int (nI jb)), (2, .int (nI jm0)), (3, .int (nI jn)), (4, .int w)]) hx hb dX4_forge_213 hl (k := 2) rfl (show nI j + Int32.ofInt 1 = nI (j + 1) from nI_add _ 1) (by decide) rfl (fun ls hl => ?_)
                            refine lv_goto (tgt := 111) hx hb dX4_forge_216 (by decide) ?_
                            have hl13 : lv_has ls 12 [(9, .int (nI (j + 1))), (8, .int (nI i)), (7, .int (e3 M (bst (thx P M (tn (U jb)) jn jm0) (i * M + (j + 1))))), (6, .int (e2 M (bst (thx P M (tn (U jb)) jn jm0) (i * M + (j + 1))))), (5, .int (e1 (bst (thx P M (tn (U jb)) jn jm0) (i * M + (j + 1))))), (0, .ref x), (1, .int (nI jb)), (2, .int (nI jm0)), (3, .int (nI jn)), (4, .int w)] := by
                              rw [show (e3 M (bst (thx P M (tn (U jb)) jn jm0) (i * M + (j + 1)))) = (e3 M (bst (thx P M (tn (U jb)) jn jm0) (i * M + j))) from by rw [st_no1 (by omega) c11]]
                              rw [show (e2 M (bst (thx P M (tn (U jb)) jn jm0) (i * M + (j + 1)))) = (e2 M (bst (thx P M (tn (U jb)) jn jm0) (i * M + j))) from by rw [st_no1 (by omega) c11]]
                              rw [show (e1 (bst (thx P M (tn (U jb)) jn jm0) (i * M + (j + 1)))) = (e1 (bst (thx P M (tn (U jb)) jn jm0) (i * M + j))) from by rw [st_no1 (by omega) c11]]
                              exact (lv_sub hl [0, 3, 4, 5, 6, 7, 8, 9, 10, 11] rfl)
                            exact ih2 (j + 1) H locs ls (by omega) (by omega) hP hD hS hl13
                          ·
                            exact absurd c12 (by decide)
                        ·
                          refine lv_iload hx hb dX4_forge_140 (lv_at hl 5 rfl) ?_
                          refine lv_bipush (v := (-9)) hx hb dX4_forge_142 (by decide) ?_
                          refine lv_icmp_eq (tgt := 154) hx hb dX4_forge_144 (by decide) (fun c14 => ?_) (fun c14 => ?_)
                          ·
                            refine lv_iconst (v := nI 1) hx hb dX4_forge_154 (by decide) ?_
                            refine lv_goto (tgt := 159) hx hb dX4_forge_155 (by decide) ?_
                            refine lv_istore (lv' := [(11, .int (nI 1)), (10, .int (fgv P M i j)), (9, .int (nI j)), (8, .int (nI i)), (7, .int (e3 M (bst (thx P M (tn (U jb)) jn jm0) (i * M + j)))), (6, .int (e2 M (bst (thx P M (tn (U jb)) jn jm0) (i * M + j)))), (5, .int (e1 (bst (thx P M (tn (U jb)) jn jm0) (i * M + j)))), (0, .ref x), (1, .int (nI jb)), (2, .int (nI jm0)), (3, .int (nI jn)), (4, .int w)]) hx hb dX4_forge_159 hl (by decide) rfl (fun ls hl => ?_)
                            refine lv_iload hx hb dX4_forge_161 (lv_at hl 0 rfl) ?_
                            refine iz_eq (tgt := 191) hx hb (by decide) dX4_forge_163 (by decide) (fun c15 => ?_) (fun c15 => ?_)
                            ·
                              exact absurd c15 (by decide)
                            ·
                              refine lv_aload_n hx hb dX4_forge_166 rfl (lv_at hl 7 rfl) ?_
                              refine g_get (v := .ref tr) hx hb hts ixX4_forge_X4 hown hK hP 0 rfl rfl 1 (by decide) lkX4_forge_18 rfl dX4_forge_167 ?_
                              refine lv_iload_n hx hb dX4_forge_170 rfl (lv_at hl 8 rfl) ?_
                              refine lv_iload_n hx hb dX4_forge_171 rfl (lv_at hl 10 rfl) ?_
                              refine rdV (As := [.int (nI jb), .int (nI jn)]) (rest := []) (ci := 2) (q0 := 5) hE (kX2_masterBehind l G tr tp tk to M B (fgA P M i j) U jb jn hM (by first | omega | assumption | exact hU _ (by omega) | exact hz _ (by omega) | exact hK3 _ (by omega) | exact h9 _ _ (by omega) (by omega)) (by first | omega | assumption | exact hU _ (by omega) | exact hz _ (by omega) | exact hK3 _ (by omega) | exact h9 _ _ (by omega) (by omega)) (by first | omega | assumption | exact hU _ (by omega) | exact hz _ (by omega) | exact hK3 _ (by omega) | exact h9 _ _ (by omega) (by omega)) (hz_fgA hM (by omega) (by omega) hz)) (cwV 2 hts gX4_forge_X2_masterBehind rfl rfl rfl (by decide +kernel) ⟨Nat.le_of_ble_eq_true rfl, Nat.le_of_ble_eq_true rfl⟩) hP hK [5, 6, 8] rfl rfl rfl rfl hl.1 rfl (Nat.le_of_ble_eq_true rfl) dX4_forge_172 ⟨Nat.zero_le _, Nat.zero_le _⟩ ?_
                              refine W.eq (g2 := F0 m 175 ls [.int (nI (wh (fgA P M i j) M (tn (U jb)) jn))]) rfl ?_
                              have hwl2 := wh_lt (P := fgA P M i j) hul jn
                              refine lv_iload_n hx hb dX4_forge_175 rfl (lv_at hl 9 rfl) ?_
                              refine ic_ne (tgt := 191) hx hb (by omega) (by omega) dX4_forge_176 (by decide) (fun c16 => ?_) (fun c16 => ?_)
                              ·
                                skip
                                refine lv_aload_n hx hb dX4_forge_191 rfl (lv_at hl 7 rfl) ?_
                                refine g_get (v := .ref tr) hx hb hts ixX4_forge_X4 hown hK hP 0 rfl rfl 1 (by decide) lkX4_forge_18 rfl dX4_forge_192 ?_
                                refine lv_iload hx hb dX4_forge_195 (lv_at hl 3 rfl) ?_
                                refine lv_iload hx hb dX4_forge_197 (lv_at hl 2 rfl) ?_
                                refine lv_aload_n hx hb dX4_forge_199 rfl (lv_at hl 7 rfl) ?_
                                refine g_get (v := .ref st) hx hb hts ixX4_forge_X4 hown hK hP 0 rfl rfl 0 (by decide) lkX4_forge_12 rfl dX4_forge_200 ?_
                                refine lv_iload hx hb dX4_forge_203 (lv_at hl 3 rfl) ?_
                                refine lv_iload hx hb dX4_forge_205 (lv_at hl 2 rfl) ?_
                                refine rdV (As := [.int (nI i), .int (nI j)]) (rest := [.int (nI j), .int (nI i), .ref tr]) (ci := 2) (q0 := 1) hE (kX2_debt l G st ap ak ao M B P i j (by first | omega | assumption | exact hU _ (by omega) | exact hz _ (by omega) | exact hK3 _ (by omega) | exact h9 _ _ (by omega) (by omega))) (cwV 2 hts gX4_forge_X2_debt rfl rfl rfl (by decide +kernel) ⟨Nat.le_of_ble_eq_true rfl, Nat.le_of_ble_eq_true rfl⟩) hP hK [1, 2] rfl rfl rfl rfl hl.1 rfl (Nat.le_of_ble_eq_true rfl) dX4_forge_207 ⟨Nat.zero_le _, Nat.zero_le _⟩ ?_
                                refine W.eq (g2 := F0 m 210 ls [.int (P (i * 5 + j)), .int (nI j), .int (nI i), .ref tr]) rfl ?_
                                refine wtV (As := [.int (nI i), .int (nI j), .int (P (i * 5 + j))]) (rest := []) (ci := 2) (q0 := 5) hE (kX2_setDebt l G tr tp tk to (nI M) (nI B) (fgA P M i j) i j (P (i * 5 + j)) (by first | omega | assumption | exact hU _ (by omega) | exact hz _ (by omega) | exact hK3 _ (by omega) | exact h9 _ _ (by omega) (by omega))) (cwV 3 hts gX4_forge_X2_setDebt rfl rfl rfl (by decide +kernel) ⟨Nat.le_of_ble_eq_true rfl, Nat.le_of_ble_eq_true rfl⟩) hP hK hD hS [5, 6] (by decide) rfl (Eq.trans (b := [tr, tp]) rfl rfl) (W1 := [(x, .inr (4, [.ref st, .ref tr, .ref ra, .int (nI R), .ref sa, .int tc, .int fl])), (st, .inr (2, [.ref ap, .ref ak, .ref ao, .int (nI M), .int (nI B)])), (ap, aI G 25 P), (ak, aI G 4 K), (ao, aI G 4 U), (tr, .inr (2, [.ref tp, .ref tk, .ref to, .int (nI M), .int (nI B)])), (tp, aI G 25 (upd (fgA P M i j) (i * 5 + j) (P (i * 5 + j)))), (tk, aI G 4 K), (to, aI G 4 U)]) rfl rfl rfl rfl hl.1 rfl (Nat.le_of_ble_eq_true rfl) dX4_forge_210 ⟨Nat.zero_le _, Nat.zero_le _⟩ (fun H locs hP hD hS => ?_)
                                refine W.eq (g2 := F0 m 213 ls []) rfl ?_
                                have hP : va_P G.1 vwCl [(x, .inr (4, [.ref st, .ref tr, .ref ra, .int (nI R), .ref sa, .int tc, .int fl])), (st, .inr (2, [.ref ap, .ref ak, .ref ao, .int (nI M), .int (nI B)])), (ap, aI G 25 P), (ak, aI G 4 K), (ao, aI G 4 U), (tr, .inr (2, [.ref tp, .ref tk, .ref to, .int (nI M), .int (nI B)])), (tp, aI G 25 P), (tk, aI G 4 K), (to, aI G 4 U)] H := by have h0 := hP; rw [fgA_back P M i j] at h0; exact h0
                                have hD : va_D A [(x, .inr (4, [.ref st, .ref tr, .ref ra, .int (nI R), .ref sa, .int tc, .int fl])), (st, .inr (2, [.ref ap, .ref ak, .ref ao, .int (nI M), .int (nI B)])), (ap, aI G 25 P), (ak, aI G 4 K), (ao, aI G 4 U), (tr, .inr (2, [.ref tp, .ref tk, .ref to, .int (nI M), .int (nI B)])), (tp, aI G 25 P), (tk, aI G 4 K), (to, aI G 4 U)] := by have h0 := hD; rw [fgA_back P M i j] at h0; exact h0
                                refine lv_iinc (v := nI (j + 1)) (lv' := [(9, .int (nI (j + 1))), (11, .int (nI 1)), (10, .int (fgv P M i j)), (8, .int (nI i)), (7, .int (e3 M (bst (thx P M (tn (U jb)) jn jm0) (i * M + j)))), (6, .int (e2 M (bst (thx P M (tn (U jb)) jn jm0) (i * M + j)))), (5, .int (e1 (bst (thx P M (tn (U jb)) jn jm0) (i * M + j)))), (0, .ref x), (1, .int (nI jb)), (2, .int (nI jm0)), (3, .int (nI jn)), (4, .int w)]) hx hb dX4_forge_213 hl (k := 2) rfl (show nI j + Int32.ofInt 1 = nI (j + 1) from nI_add _ 1) (by decide) rfl (fun ls hl => ?_)
                                refine lv_goto (tgt := 111) hx hb dX4_forge_216 (by decide) ?_
                                have hl17 : lv_has ls 12 [(9, .int (nI (j + 1))), (8, .int (nI i)), (7, .int (e3 M (bst (thx P M (tn (U jb)) jn jm0) (i * M + (j + 1))))), (6, .int (e2 M (bst (thx P M (tn (U jb)) jn jm0) (i * M + (j + 1))))), (5, .int (e1 (bst (thx P M (tn (U jb)) jn jm0) (i * M + (j + 1))))), (0, .ref x), (1, .int (nI jb)), (2, .int (nI jm0)), (3, .int (nI jn)), (4, .int w)] := by
                                  rw [show (e3 M (bst (thx P M (tn (U jb)) jn jm0) (i * M + (j + 1)))) = (e3 M (bst (thx P M (tn (U jb)) jn jm0) (i * M + j))) from by rw [st_ne (by omega) c16]]
                                  rw [show (e2 M (bst (thx P M (tn (U jb)) jn jm0) (i * M + (j + 1)))) = (e2 M (bst (thx P M (tn (U jb)) jn jm0) (i * M + j))) from by rw [st_ne (by omega) c16]]
                                  rw [show (e1 (bst (thx P M (tn (U jb)) jn jm0) (i * M + (j + 1)))) = (e1 (bst (thx P M (tn (U jb)) jn jm0) (i * M + j))) from by rw [st_ne (by omega) c16]]
                                  exact (lv_sub hl [0, 3, 4, 5, 6, 7, 8, 9, 10, 11] rfl)
                                exact ih2 (j + 1) H locs ls (by omega) (by omega) hP hD hS hl17
                              ·
                                refine lv_iload hx hb dX4_forge_179 (lv_at hl 1 rfl) ?_
                                refine lv_istore (lv' := [(5, .int (fgv P M i j)), (11, .int (nI 1)), (10, .int (fgv P M i j)), (9, .int (nI j)), (8, .int (nI i)), (7, .int (e3 M (bst (thx P M (tn (U jb)) jn jm0) (i * M + j)))), (6, .int (e2 M (bst (thx P M (tn (U jb)) jn jm0) (i * M + j)))), (0, .ref x), (1, .int (nI jb)), (2, .int (nI jm0)), (3, .int (nI jn)), (4, .int w)]) hx hb dX4_forge_181 hl (by decide) rfl (fun ls hl => ?_)
                                refine lv_iload hx hb dX4_forge_183 (lv_at hl 4 rfl) ?_
                                refine lv_istore (lv' := [(6, .int (nI i)), (5, .int (fgv P M i j)), (11, .int (nI 1)), (10, .int (fgv P M i j)), (9, .int (nI j)), (8, .int (nI i)), (7, .int (e3 M (bst (thx P M (tn (U jb)) jn jm0) (i * M + j)))), (0, .ref x), (1, .int (nI jb)), (2, .int (nI jm0)), (3, .int (nI jn)), (4, .int w)]) hx hb dX4_forge_185 hl (by decide) rfl (fun ls hl => ?_)
                                refine lv_iload hx hb dX4_forge_187 (lv_at hl 4 rfl) ?_
                                refine lv_istore (lv' := [(7, .int (nI j)), (6, .int (nI i)), (5, .int (fgv P M i j)), (11, .int (nI 1)), (10, .int (fgv P M i j)), (9, .int (nI j)), (8, .int (nI i)), (0, .ref x), (1, .int (nI jb)), (2, .int (nI jm0)), (3, .int (nI jn)), (4, .int w)]) hx hb dX4_forge_189 hl (by decide) rfl (fun ls hl => ?_)
                                skip
                                refine lv_aload_n hx hb dX4_forge_191 rfl (lv_at hl 7 rfl) ?_
                                refine g_get (v := .ref tr) hx hb hts ixX4_forge_X4 hown hK hP 0 rfl rfl 1 (by decide) lkX4_forge_18 rfl dX4_forge_192 ?_
                                refine lv_iload hx hb dX4_forge_195 (lv_at hl 6 rfl) ?_
                                refine lv_iload hx hb dX4_forge_197 (lv_at hl 5 rfl) ?_
                                refine lv_aload_n hx hb dX4_forge_199 rfl (lv_at hl 7 rfl) ?_
                                refine g_get (v := .ref st) hx hb hts ixX4_forge_X4 hown hK hP 0 rfl rfl 0 (by decide) lkX4_forge_12 rfl dX4_forge_200 ?_
                                refine lv_iload hx hb dX4_forge_203 (lv_at hl 6 rfl) ?_
                                refine lv_iload hx hb dX4_forge_205 (lv_at hl 5 rfl) ?_
                                refine rdV (As := [.int (nI i), .int (nI j)]) (rest := [.int (nI j), .int (nI i), .ref tr]) (ci := 2) (q0 := 1) hE (kX2_debt l G st ap ak ao M B P i j (by first | omega | assumption | exact hU _ (by omega) | exact hz _ (by omega) | exact hK3 _ (by omega) | exact h9 _ _ (by omega) (by omega))) (cwV 2 hts gX4_forge_X2_debt rfl rfl rfl (by decide +kernel) ⟨Nat.le_of_ble_eq_true rfl, Nat.le_of_ble_eq_true rfl⟩) hP hK [1, 2] rfl rfl rfl rfl hl.1 rfl (Nat.le_of_ble_eq_true rfl) dX4_forge_207 ⟨Nat.zero_le _, Nat.zero_le _⟩ ?_
                                refine W.eq (g2 := F0 m 210 ls [.int (P (i * 5 + j)), .int (nI j), .int (nI i), .ref tr]) rfl ?_
                                refine wtV (As := [.int (nI i), .int (nI j), .int (P (i * 5 + j))]) (rest := []) (ci := 2) (q0 := 5) hE (kX2_setDebt l G tr tp tk to (nI M) (nI B) (fgA P M i j) i j (P (i * 5 + j)) (by first | omega | assumption | exact hU _ (by omega) | exact hz _ (by omega) | exact hK3 _ (by omega) | exact h9 _ _ (by omega) (by omega))) (cwV 3 hts gX4_forge_X2_setDebt rfl rfl rfl (by decide +kernel) ⟨Nat.le_of_ble_eq_true rfl, Nat.le_of_ble_eq_true rfl⟩) hP hK hD hS [5, 6] (by decide) rfl (Eq.trans (b := [tr, tp]) rfl rfl) (W1 := [(x, .inr (4, [.ref st, .ref tr, .ref ra, .int (nI R), .ref sa, .int tc, .int fl])), (st, .inr (2, [.ref ap, .ref ak, .ref ao, .int (nI M), .int (nI B)])), (ap, aI G 25 P), (ak, aI G 4 K), (ao, aI G 4 U), (tr, .inr (2, [.ref tp, .ref tk, .ref to, .int (nI M), .int (nI B)])), (tp, aI G 25 (upd (fgA P M i j) (i * 5 + j) (P (i * 5 + j)))), (tk, aI G 4 K), (to, aI G 4 U)]) rfl rfl rfl rfl hl.1 rfl (Nat.le_of_ble_eq_true rfl) dX4_forge_210 ⟨Nat.zero_le _, Nat.zero_le _⟩ (fun H locs hP hD hS => ?_)
                                refine W.eq (g2 := F0 m 213 ls []) rfl ?_
                                have hP : va_P G.1 vwCl [(x, .inr (4, [.ref st, .ref tr, .ref ra, .int (nI R), .ref sa, .int tc, .int fl])), (st, .inr (2, [.ref ap, .ref ak, .ref ao, .int (nI M), .int (nI B)])), (ap, aI G 25 P), (ak, aI G 4 K), (ao, aI G 4 U), (tr, .inr (2, [.ref tp, .ref tk, .ref to, .int (nI M), .int (nI B)])), (tp, aI G 25 P), (tk, aI G 4 K), (to, aI G 4 U)] H := by have h0 := hP; rw [fgA_back P M i j] at h0; exact h0
                                have hD : va_D A [(x, .inr (4, [.ref st, .ref tr, .ref ra, .int (nI R), .ref sa, .int tc, .int fl])), (st, .inr (2, [.ref ap, .ref ak, .ref ao, .int (nI M), .int (nI B)])), (ap, aI G 25 P), (ak, aI G 4 K), (ao, aI G 4 U), (tr, .inr (2, [.ref tp, .ref tk, .ref to, .int (nI M), .int (nI B)])), (tp, aI G 25 P), (tk, aI G 4 K), (to, aI G 4 U)] := by have h0 := hD; rw [fgA_back P M i j] at h0; exact h0
                                refine lv_iinc (v := nI (j + 1)) (lv' := [(9, .int (nI (j + 1))), (7, .int (nI j)), (6, .int (nI i)), (5, .int (fgv P M i j)), (11, .int (nI 1)), (10, .int (fgv P M i j)), (8, .int (nI i)), (0, .ref x), (1, .int (nI jb)), (2, .int (nI jm0)), (3, .int (nI jn)), (4, .int w)]) hx hb dX4_forge_213 hl (k := 5) rfl (show nI j + Int32.ofInt 1 = nI (j + 1) from nI_add _ 1) (by decide) rfl (fun ls hl => ?_)
                                refine lv_goto (tgt := 111) hx hb dX4_forge_216 (by decide) ?_
                                have hl18 : lv_has ls 12 [(9, .int (nI (j + 1))), (8, .int (nI i)), (7, .int (e3 M (bst (thx P M (tn (U jb)) jn jm0) (i * M + (j + 1))))), (6, .int (e2 M (bst (thx P M (tn (U jb)) jn jm0) (i * M + (j + 1))))), (5, .int (e1 (bst (thx P M (tn (U jb)) jn jm0) (i * M + (j + 1))))), (0, .ref x), (1, .int (nI jb)), (2, .int (nI jm0)), (3, .int (nI jn)), (4, .int w)] := by
                                  rw [show (e3 M (bst (thx P M (tn (U jb)) jn jm0) (i * M + (j + 1)))) = (nI j) from (st_yes (by omega) c11 (Or.inl c14) c16).2.2]
                                  rw [show (e2 M (bst (thx P M (tn (U jb)) jn jm0) (i * M + (j + 1)))) = (nI i) from (st_yes (by omega) c11 (Or.inl c14) c16).2.1]
                                  rw [show (e1 (bst (thx P M (tn (U jb)) jn jm0) (i * M + (j + 1)))) = (fgv P M i j) from (st_yes (by omega) c11 (Or.inl c14) c16).1]
                                  exact (lv_sub hl [0, 6, 1, 2, 3, 7, 8, 9, 10, 11] rfl)
                                exact ih2 (j + 1) H locs ls (by omega) (by omega) hP hD hS hl18
                          ·
                            refine lv_iload hx hb dX4_forge_147 (lv_at hl 0 rfl) ?_
                            refine lv_iload hx hb dX4_forge_149 (lv_at hl 5 rfl) ?_
                            refine lv_icmp_ge (tgt := 158) hx hb dX4_forge_151 (by decide) (fun c19 => ?_) (fun c19 => ?_)
                            ·
                              refine lv_iconst (v := nI 0) hx hb dX4_forge_158 (by decide) ?_
                              refine lv_istore (lv' := [(11, .int (nI 0)), (10, .int (fgv P M i j)), (9, .int (nI j)), (8, .int (nI i)), (7, .int (e3 M (bst (thx P M (tn (U jb)) jn jm0) (i * M + j)))), (6, .int (e2 M (bst (thx P M (tn (U jb)) jn jm0) (i * M + j)))), (5, .int (e1 (bst (thx P M (tn (U jb)) jn jm0) (i * M + j)))), (0, .ref x), (1, .int (nI jb)), (2, .int (nI jm0)), (3, .int (nI jn)), (4, .int w)]) hx hb dX4_forge_159 hl (by decide) rfl (fun ls hl => ?_)
                              refine lv_iload hx hb dX4_forge_161 (lv_at hl 0 rfl) ?_
                              refine iz_eq (tgt := 191) hx hb (by decide) dX4_forge_163 (by decide) (fun c20 => ?_) (fun c20 => ?_)
                              ·
                                skip
                                refine lv_aload_n hx hb dX4_forge_191 rfl (lv_at hl 7 rfl) ?_
                                refine g_get (v := .ref tr) hx hb hts ixX4_forge_X4 hown hK hP 0 rfl rfl 1 (by decide) lkX4_forge_18 rfl dX4_forge_192 ?_
                                refine lv_iload hx hb dX4_forge_195 (lv_at hl 3 rfl) ?_
                                refine lv_iload hx hb dX4_forge_197 (lv_at hl 2 rfl) ?_
                                refine lv_aload_n hx hb dX4_forge_199 rfl (lv_at hl 7 rfl) ?_
                                refine g_get (v := .ref st) hx hb hts ixX4_forge_X4 hown hK hP 0 rfl rfl 0 (by decide) lkX4_forge_12 rfl dX4_forge_200 ?_
                                refine lv_iload hx hb dX4_forge_203 (lv_at hl 3 rfl) ?_
                                refine lv_iload hx hb dX4_forge_205 (lv_at hl 2 rfl) ?_
                                refine rdV (As := [.int (nI i), .int (nI j)]) (rest := [.int (nI j), .int (nI i), .ref tr]) (ci := 2) (q0 := 1) hE (kX2_debt l G st ap ak ao M B P i j (by first | omega | assumption | exact hU _ (by omega) | exact hz _ (by omega) | exact hK3 _ (by omega) | exact h9 _ _ (by omega) (by omega))) (cwV 2 hts gX4_forge_X2_debt rfl rfl rfl (by decide +kernel) ⟨Nat.le_of_ble_eq_true rfl, Nat.le_of_ble_eq_true rfl⟩) hP hK [1, 2] rfl rfl rfl rfl hl.1 rfl (Nat.le_of_ble_eq_true rfl) dX4_forge_207 ⟨Nat.zero_le _, Nat.zero_le _⟩ ?_
                                refine W.eq (g2 := F0 m 210 ls [.int (P (i * 5 + j)), .int (nI j), .int (nI i), .ref tr]) rfl ?_
                                refine wtV (As := [.int (nI i), .int (nI j), .int (P (i * 5 + j))]) (rest := []) (ci := 2) (q0 := 5) hE (kX2_setDebt l G tr tp tk to (nI M) (nI B) (fgA P M i j) i j (P (i * 5 + j)) (by first | omega | assumption | exact hU _ (by omega) | exact hz _ (by omega) | exact hK3 _ (by omega) | exact h9 _ _ (by omega) (by omega))) (cwV 3 hts gX4_forge_X2_setDebt rfl rfl rfl (by decide +kernel) ⟨Nat.le_of_ble_eq_true rfl, Nat.le_of_ble_eq_true rfl⟩) hP hK hD hS [5, 6] (by decide) rfl (Eq.trans (b := [tr, tp]) rfl rfl) (W1 := [(x, .inr (4, [.ref st, .ref tr, .ref ra, .int (nI R), .ref sa, .int tc, .int fl])), (st, .inr (2, [.ref ap, .ref ak, .ref ao, .int (nI M), .int (nI B)])), (ap, aI G 25 P), (ak, aI G 4 K), (ao, aI G 4 U), (tr, .inr (2, [.ref tp, .ref tk, .ref to, .int (nI M), .int (nI B)])), (tp, aI G 25 (upd (fgA P M i j) (i * 5 + j) (P (i * 5 + j)))), (tk, aI G 4 K), (to, aI G 4 U)]) rfl rfl rfl rfl hl.1 rfl (Nat.le_of_ble_eq_true rfl) dX4_forge_210 ⟨Nat.zero_le _, Nat.zero_le _⟩ (fun H locs hP hD hS => ?_)
                                refine W.eq (g2 := F0 m 213 ls []) rfl ?_
                                have hP : va_P G.1 vwCl [(x, .inr (4, [.ref st, .ref tr, .ref ra, .int (nI R), .ref sa, .int tc, .int fl])), (st, .inr (2, [.ref ap, .ref ak, .ref ao, .int (nI M), .int (nI B)])), (ap, aI G 25 P), (ak, aI G 4 K), (ao, aI G 4 U), (tr, .inr (2, [.ref tp, .ref tk, .ref to, .int (nI M), .int (nI B)])), (tp, aI G 25 P), (tk, aI G 4 K), (to, aI G 4 U)] H := by have h0 := hP; rw [fgA_back P M i j] at h0; exact h0
                                have hD : va_D A [(x, .inr (4, [.ref st, .ref tr, .ref ra, .int (nI R), .ref sa, .int tc, .int fl])), (st, .inr (2, [.ref ap, .ref ak, .ref ao, .int (nI M), .int (nI B)])), (ap, aI G 25 P), (ak, aI G 4 K), (ao, aI G 4 U), (tr, .inr (2, [.ref tp, .ref tk, .ref to, .int (nI M), .int (nI B)])), (tp, aI G 25 P), (tk, aI G 4 K), (to, aI G 4 U)] := by have h0 := hD; rw [fgA_back P M i j] at h0; exact h0
                                refine lv_iinc (v := nI (j + 1)) (lv' := [(9, .int (nI (j + 1))), (11, .int (nI 0)), (10, .int (fgv P M i j)), (8, .int (nI i)), (7, .int (e3 M (bst (thx P M (tn (U jb)) jn jm0) (i * M + j)))), (6, .int (e2 M (bst (thx P M (tn (U jb)) jn jm0) (i * M + j)))), (5, .int (e1 (bst (thx P M (tn (U jb)) jn jm0) (i * M + j)))), (0, .ref x), (1, .int (nI jb)), (2, .int (nI jm0)), (3, .int (nI jn)), (4, .int w)]) hx hb dX4_forge_213 hl (k := 2) rfl (show nI j + Int32.ofInt 1 = nI (j + 1) from nI_add _ 1) (by decide) rfl (fun ls hl => ?_)
                                refine lv_goto (tgt := 111) hx hb dX4_forge_216 (by decide) ?_
                                have hl21 : lv_has ls 12 [(9, .int (nI (j + 1))), (8, .int (nI i)), (7, .int (e3 M (bst (thx P M (tn (U jb)) jn jm0) (i * M + (j + 1))))), (6, .int (e2 M (bst (thx P M (tn (U jb)) jn jm0) (i * M + (j + 1))))), (5, .int (e1 (bst (thx P M (tn (U jb)) jn jm0) (i * M + (j + 1))))), (0, .ref x), (1, .int (nI jb)), (2, .int (nI jm0)), (3, .int (nI jn)), (4, .int w)] := by
                                  rw [show (e3 M (bst (thx P M (tn (U jb)) jn jm0) (i * M + (j + 1)))) = (e3 M (bst (thx P M (tn (U jb)) jn jm0) (i * M + j))) from by rw [st_no2 (by omega) c14 c19]]
                                  rw [show (e2 M (bst (thx P M (tn (U jb)) jn jm0) (i * M + (j + 1)))) = (e2 M (bst (thx P M (tn (U jb)) jn jm0) (i * M + j))) from by rw [st_no2 (by omega) c14 c19]]
                                  rw [show (e1 (bst (thx P M (tn (U jb)) jn jm0) (i * M + (j + 1)))) = (e1 (bst (thx P M (tn (U jb)) jn jm0) (i * M + j))) from by rw [st_no2 (by omega) c14 c19]]
                                  exact (lv_sub hl [0, 3, 4, 5, 6, 7, 8, 9, 10, 11] rfl)
                                exact ih2 (j + 1) H locs ls (by omega) (by omega) hP hD hS hl21
                              ·
                                exact absurd c20 (by decide)
                            ·
                              refine lv_iconst (v := nI 1) hx hb dX4_forge_154 (by decide) ?_
                              refine lv_goto (tgt := 159) hx hb dX4_forge_155 (by decide) ?_
                              refine lv_istore (lv' := [(11, .int (nI 1)), (10, .int (fgv P M i j)), (9, .int (nI j)), (8, .int (nI i)), (7, .int (e3 M (bst (thx P M (tn (U jb)) jn jm0) (i * M + j)))), (6, .int (e2 M (bst (thx P M (tn (U jb)) jn jm0) (i * M + j)))), (5, .int (e1 (bst (thx P M (tn (U jb)) jn jm0) (i * M + j)))), (0, .ref x), (1, .int (nI jb)), (2, .int (nI jm0)), (3, .int (nI jn)), (4, .int w)]) hx hb dX4_forge_159 hl (by decide) rfl (fun ls hl => ?_)
                              refine lv_iload hx hb dX4_forge_161 (lv_at hl 0 rfl) ?_
                              refine iz_eq (tgt := 191) hx hb (by decide) dX4_forge_163 (by decide) (fun c22 => ?_) (fun c22 => ?_)
                              ·
                                exact absurd c22 (by decide)
                              ·
                                refine lv_aload_n hx hb dX4_forge_166 rfl (lv_at hl 7 rfl) ?_
                                refine g_get (v := .ref tr) hx hb hts ixX4_forge_X4 hown hK hP 0 rfl rfl 1 (by decide) lkX4_forge_18 rfl dX4_forge_167 ?_
                                refine lv_iload_n hx hb dX4_forge_170 rfl (lv_at hl 8 rfl) ?_
                                refine lv_iload_n hx hb dX4_forge_171 rfl (lv_at hl 10 rfl) ?_
                                refine rdV (As := [.int (nI jb), .int (nI jn)]) (rest := []) (ci := 2) (q0 := 5) hE (kX2_masterBehind l G tr tp tk to M B (fgA P M i j) U jb jn hM (by first | omega | assumption | exact hU _ (by omega) | exact hz _ (by omega) | exact hK3 _ (by omega) | exact h9 _ _ (by omega) (by omega)) (by first | omega | assumption | exact hU _ (by omega) | exact hz _ (by omega) | exact hK3 _ (by omega) | exact h9 _ _ (by omega) (by omega)) (by first | omega | assumption | exact hU _ (by omega) | exact hz _ (by omega) | exact hK3 _ (by omega) | exact h9 _ _ (by omega) (by omega)) (hz_fgA hM (by omega) (by omega) hz)) (cwV 2 hts gX4_forge_X2_masterBehind rfl rfl rfl (by decide +kernel) ⟨Nat.le_of_ble_eq_true rfl, Nat.le_of_ble_eq_true rfl⟩) hP hK [5, 6, 8] rfl rfl rfl rfl hl.1 rfl (Nat.le_of_ble_eq_true rfl) dX4_forge_172 ⟨Nat.zero_le _, Nat.zero_le _⟩ ?_
                                refine W.eq (g2 := F0 m 175 ls [.int (nI (wh (fgA P M i j) M (tn (U jb)) jn))]) rfl ?_
                                have hwl2 := wh_lt (P := fgA P M i j) hul jn
                                refine lv_iload_n hx hb dX4_forge_175 rfl (lv_at hl 9 rfl) ?_
                                refine ic_ne (tgt := 191) hx hb (by omega) (by omega) dX4_forge_176 (by decide) (fun c23 => ?_) (fun c23 => ?_)
                                ·
                                  skip
                                  refine lv_aload_n hx hb dX4_forge_191 rfl (lv_at hl 7 rfl) ?_
                                  refine g_get (v := .ref tr) hx hb hts ixX4_forge_X4 hown hK hP 0 rfl rfl 1 (by decide) lkX4_forge_18 rfl dX4_forge_192 ?_
                                  refine lv_iload hx hb dX4_forge_195 (lv_at hl 3 rfl) ?_
                                  refine lv_iload hx hb dX4_forge_197 (lv_at hl 2 rfl) ?_
                                  refine lv_aload_n hx hb dX4_forge_199 rfl (lv_at hl 7 rfl) ?_
                                  refine g_get (v := .ref st) hx hb hts ixX4_forge_X4 hown hK hP 0 rfl rfl 0 (by decide) lkX4_forge_12 rfl dX4_forge_200 ?_
                                  refine lv_iload hx hb dX4_forge_203 (lv_at hl 3 rfl) ?_
                                  refine lv_iload hx hb dX4_forge_205 (lv_at hl 2 rfl) ?_
                                  refine rdV (As := [.int (nI i), .int (nI j)]) (rest := [.int (nI j), .int (nI i), .ref tr]) (ci := 2) (q0 := 1) hE (kX2_debt l G st ap ak ao M B P i j (by first | omega | assumption | exact hU _ (by omega) | exact hz _ (by omega) | exact hK3 _ (by omega) | exact h9 _ _ (by omega) (by omega))) (cwV 2 hts gX4_forge_X2_debt rfl rfl rfl (by decide +kernel) ⟨Nat.le_of_ble_eq_true rfl, Nat.le_of_ble_eq_true rfl⟩) hP hK [1, 2] rfl rfl rfl rfl hl.1 rfl (Nat.le_of_ble_eq_true rfl) dX4_forge_207 ⟨Nat.zero_le _, Nat.zero_le _⟩ ?_
                                  refine W.eq (g2 := F0 m 210 ls [.int (P (i * 5 + j)), .int (nI j), .int (nI i), .ref tr]) rfl ?_
                                  refine wtV (As := [.int (nI i), .int (nI j), .int (P (i * 5 + j))]) (rest := []) (ci := 2) (q0 := 5) hE (kX2_setDebt l G tr tp tk to (nI M) (nI B) (fgA P M i j) i j (P (i * 5 + j)) (by first | omega | assumption | exact hU _ (by omega) | exact hz _ (by omega) | exact hK3 _ (by omega) | exact h9 _ _ (by omega) (by omega))) (cwV 3 hts gX4_forge_X2_setDebt rfl rfl rfl (by decide +kernel) ⟨Nat.le_of_ble_eq_true rfl, Nat.le_of_ble_eq_true rfl⟩) hP hK hD hS [5, 6] (by decide) rfl (Eq.trans (b := [tr, tp]) rfl rfl) (W1 := [(x, .inr (4, [.ref st, .ref tr, .ref ra, .int (nI R), .ref sa, .int tc, .int fl])), (st, .inr (2, [.ref ap, .ref ak, .ref ao, .int (nI M), .int (nI B)])), (ap, aI G 25 P), (ak, aI G 4 K), (ao, aI G 4 U), (tr, .inr (2, [.ref tp, .ref tk, .ref to, .int (nI M), .int (nI B)])), (tp, aI G 25 (upd (fgA P M i j) (i * 5 + j) (P (i * 5 + j)))), (tk, aI G 4 K), (to, aI G 4 U)]) rfl rfl rfl rfl hl.1 rfl (Nat.le_of_ble_eq_true rfl) dX4_forge_210 ⟨Nat.zero_le _, Nat.zero_le _⟩ (fun H locs hP hD hS => ?_)
                                  refine W.eq (g2 := F0 m 213 ls []) rfl ?_
                                  have hP : va_P G.1 vwCl [(x, .inr (4, [.ref st, .ref tr, .ref ra, .int (nI R), .ref sa, .int tc, .int fl])), (st, .inr (2, [.ref ap, .ref ak, .ref ao, .int (nI M), .int (nI B)])), (ap, aI G 25 P), (ak, aI G 4 K), (ao, aI G 4 U), (tr, .inr (2, [.ref tp, .ref tk, .ref to, .int (nI M), .int (nI B)])), (tp, aI G 25 P), (tk, aI G 4 K), (to, aI G 4 U)] H := by have h0 := hP; rw [fgA_back P M i j] at h0; exact h0
                                  have hD : va_D A [(x, .inr (4, [.ref st, .ref tr, .ref ra, .int (nI R), .ref sa, .int tc, .int fl])), (st, .inr (2, [.ref ap, .ref ak, .ref ao, .int (nI M), .int (nI B)])), (ap, aI G 25 P), (ak, aI G 4 K), (ao, aI G 4 U), (tr, .inr (2, [.ref tp, .ref tk, .ref to, .int (nI M), .int (nI B)])), (tp, aI G 25 P), (tk, aI G 4 K), (to, aI G 4 U)] := by have h0 := hD; rw [fgA_back P M i j] at h0; exact h0
                                  refine lv_iinc (v := nI (j + 1)) (lv' := [(9, .int (nI (j + 1))), (11, .int (nI 1)), (10, .int (fgv P M i j)), (8, .int (nI i)), (7, .int (e3 M (bst (thx P M (tn (U jb)) jn jm0) (i * M + j)))), (6, .int (e2 M (bst (thx P M (tn (U jb)) jn jm0) (i * M + j)))), (5, .int (e1 (bst (thx P M (tn (U jb)) jn jm0) (i * M + j)))), (0, .ref x), (1, .int (nI jb)), (2, .int (nI jm0)), (3, .int (nI jn)), (4, .int w)]) hx hb dX4_forge_213 hl (k := 2) rfl (show nI j + Int32.ofInt 1 = nI (j + 1) from nI_add _ 1) (by decide) rfl (fun ls hl => ?_)
                                  refine lv_goto (tgt := 111) hx hb dX4_forge_216 (by decide) ?_
                                  have hl24 : lv_has ls 12 [(9, .int (nI (j + 1))), (8, .int (nI i)), (7, .int (e3 M (bst (thx P M (tn (U jb)) jn jm0) (i * M + (j + 1))))), (6, .int (e2 M (bst (thx P M (tn (U jb)) jn jm0) (i * M + (j + 1))))), (5, .int (e1 (bst (thx P M (tn (U jb)) jn jm0) (i * M + (j + 1))))), (0, .ref x), (1, .int (nI jb)), (2, .int (nI jm0)), (3, .int (nI jn)), (4, .int w)] := by
                                    rw [show (e3 M (bst (thx P M (tn (U jb)) jn jm0) (i * M + (j + 1)))) = (e3 M (bst (thx P M (tn (U jb)) jn jm0) (i * M + j))) from by rw [st_ne (by omega) c23]]
                                    rw [show (e2 M (bst (thx P M (tn (U jb)) jn jm0) (i * M + (j + 1)))) = (e2 M (bst (thx P M (tn (U jb)) jn jm0) (i * M + j))) from by rw [st_ne (by omega) c23]]
                                    rw [show (e1 (bst (thx P M (tn (U jb)) jn jm0) (i * M + (j + 1)))) = (e1 (bst (thx P M (tn (U jb)) jn jm0) (i * M + j))) from by rw [st_ne (by omega) c23]]
                                    exact (lv_sub hl [0, 3, 4, 5, 6, 7, 8, 9, 10, 11] rfl)
                                  exact ih2 (j + 1) H locs ls (by omega) (by omega) hP hD hS hl24
                                ·
                                  refine lv_iload hx hb dX4_forge_179 (lv_at hl 1 rfl) ?_
                                  refine lv_istore (lv' := [(5, .int (fgv P M i j)), (11, .int (nI 1)), (10, .int (fgv P M i j)), (9, .int (nI j)), (8, .int (nI i)), (7, .int (e3 M (bst (thx P M (tn (U jb)) jn jm0) (i * M + j)))), (6, .int (e2 M (bst (thx P M (tn (U jb)) jn jm0) (i * M + j)))), (0, .ref x), (1, .int (nI jb)), (2, .int (nI jm0)), (3, .int (nI jn)), (4, .int w)]) hx hb dX4_forge_181 hl (by decide) rfl (fun ls hl => ?_)
                                  refine lv_iload hx hb dX4_forge_183 (lv_at hl 4 rfl) ?_
                                  refine lv_istore (lv' := [(6, .int (nI i)), (5, .int (fgv P M i j)), (11, .int (nI 1)), (10, .int (fgv P M i j)), (9, .int (nI j)), (8, .int (nI i)), (7, .int (e3 M (bst (thx P M (tn (U jb)) jn jm0) (i * M + j)))), (0, .ref x), (1, .int (nI jb)), (2, .int (nI jm0)), (3, .int (nI jn)), (4, .int w)]) hx hb dX4_forge_185 hl (by decide) rfl (fun ls hl => ?_)
                                  refine lv_iload hx hb dX4_forge_187 (lv_at hl 4 rfl) ?_
                                  refine lv_istore (lv' := [(7, .int (nI j)), (6, .int (nI i)), (5, .int (fgv P M i j)), (11, .int (nI 1)), (10, .int (fgv P M i j)), (9, .int (nI j)), (8, .int (nI i)), (0, .ref x), (1, .int (nI jb)), (2, .int (nI jm0)), (3, .int (nI jn)), (4, .int w)]) hx hb dX4_forge_189 hl (by decide) rfl (fun ls hl => ?_)
                                  skip
                                  refine lv_aload_n hx hb dX4_forge_191 rfl (lv_at hl 7 rfl) ?_
                                  refine g_get (v := .ref tr) hx hb hts ixX4_forge_X4 hown hK hP 0 rfl rfl 1 (by decide) lkX4_forge_18 rfl dX4_forge_192 ?_
                                  refine lv_iload hx hb dX4_forge_195 (lv_at hl 6 rfl) ?_
                                  refine lv_iload hx hb dX4_forge_197 (lv_at hl 5 rfl) ?_
                                  refine lv_aload_n hx hb dX4_forge_199 rfl (lv_at hl 7 rfl) ?_
                                  refine g_get (v := .ref st) hx hb hts ixX4_forge_X4 hown hK hP 0 rfl rfl 0 (by decide) lkX4_forge_12 rfl dX4_forge_200 ?_
                                  refine lv_iload hx hb dX4_forge_203 (lv_at hl 6 rfl) ?_
                                  refine lv_iload hx hb dX4_forge_205 (lv_at hl 5 rfl) ?_
                                  refine rdV (As := [.int (nI i), .int (nI j)]) (rest := [.int (nI j), .int (nI i), .ref tr]) (ci := 2) (q0 := 1) hE (kX2_debt l G st ap ak ao M B P i j (by first | omega | assumption | exact hU _ (by omega) | exact hz _ (by omega) | exact hK3 _ (by omega) | exact h9 _ _ (by omega) (by omega))) (cwV 2 hts gX4_forge_X2_debt rfl rfl rfl (by decide +kernel) ⟨Nat.le_of_ble_eq_true rfl, Nat.le_of_ble_eq_true rfl⟩) hP hK [1, 2] rfl rfl rfl rfl hl.1 rfl (Nat.le_of_ble_eq_true rfl) dX4_forge_207 ⟨Nat.zero_le _, Nat.zero_le _⟩ ?_
                                  refine W.eq (g2 := F0 m 210 ls [.int (P (i * 5 + j)), .int (nI j), .int (nI i), .ref tr]) rfl ?_
                                  refine wtV (As := [.int (nI i), .int (nI j), .int (P (i * 5 + j))]) (rest := []) (ci := 2) (q0 := 5) hE (kX2_setDebt l G tr tp tk to (nI M) (nI B) (fgA P M i j) i j (P (i * 5 + j)) (by first | omega | assumption | exact hU _ (by omega) | exact hz _ (by omega) | exact hK3 _ (by omega) | exact h9 _ _ (by omega) (by omega))) (cwV 3 hts gX4_forge_X2_setDebt rfl rfl rfl (by decide +kernel) ⟨Nat.le_of_ble_eq_true rfl, Nat.le_of_ble_eq_true rfl⟩) hP hK hD hS [5, 6] (by decide) rfl (Eq.trans (b := [tr, tp]) rfl rfl) (W1 := [(x, .inr (4, [.ref st, .ref tr, .ref ra, .int (nI R), .ref sa, .int tc, .int fl])), (st, .inr (2, [.ref ap, .ref ak, .ref ao, .int (nI M), .int (nI B)])), (ap, aI G 25 P), (ak, aI G 4 K), (ao, aI G 4 U), (tr, .inr (2, [.ref tp, .ref tk, .ref to, .int (nI M), .int (nI B)])), (tp, aI G 25 (upd (fgA P M i j) (i * 5 + j) (P (i * 5 + j)))), (tk, aI G 4 K), (to, aI G 4 U)]) rfl rfl rfl rfl hl.1 rfl (Nat.le_of_ble_eq_true rfl) dX4_forge_210 ⟨Nat.zero_le _, Nat.zero_le _⟩ (fun H locs hP hD hS => ?_)
                                  refine W.eq (g2 := F0 m 213 ls []) rfl ?_
                                  have hP : va_P G.1 vwCl [(x, .inr (4, [.ref st, .ref tr, .ref ra, .int (nI R), .ref sa, .int tc, .int fl])), (st, .inr (2, [.ref ap, .ref ak, .ref ao, .int (nI M), .int (nI B)])), (ap, aI G 25 P), (ak, aI G 4 K), (ao, aI G 4 U), (tr, .inr (2, [.ref tp, .ref tk, .ref to, .int (nI M), .int (nI B)])), (tp, aI G 25 P), (tk, aI G 4 K), (to, aI G 4 U)] H := by have h0 := hP; rw [fgA_back P M i j] at h0; exact h0
                                  have hD : va_D A [(x, .inr (4, [.ref st, .ref tr, .ref ra, .int (nI R), .ref sa, .int tc, .int fl])), (st, .inr (2, [.ref ap, .ref ak, .ref ao, .int (nI M), .int (nI B)])), (ap, aI G 25 P), (ak, aI G 4 K), (ao, aI G 4 U), (tr, .inr (2, [.ref tp, .ref tk, .ref to, .int (nI M), .int (nI B)])), (tp, aI G 25 P), (tk, aI G 4 K), (to, aI G 4 U)] := by have h0 := hD; rw [fgA_back P M i j] at h0; exact h0
                                  refine lv_iinc (v := nI (j + 1)) (lv' := [(9, .int (nI (j + 1))), (7, .int (nI j)), (6, .int (nI i)), (5, .int (fgv P M i j)), (11, .int (nI 1)), (10, .int (fgv P M i j)), (8, .int (nI i)), (0, .ref x), (1, .int (nI jb)), (2, .int (nI jm0)), (3, .int (nI jn)), (4, .int w)]) hx hb dX4_forge_213 hl (k := 5) rfl (show nI j + Int32.ofInt 1 = nI (j + 1) from nI_add _ 1) (by decide) rfl (fun ls hl => ?_)
                                  refine lv_goto (tgt := 111) hx hb dX4_forge_216 (by decide) ?_
                                  have hl25 : lv_has ls 12 [(9, .int (nI (j + 1))), (8, .int (nI i)), (7, .int (e3 M (bst (thx P M (tn (U jb)) jn jm0) (i * M + (j + 1))))), (6, .int (e2 M (bst (thx P M (tn (U jb)) jn jm0) (i * M + (j + 1))))), (5, .int (e1 (bst (thx P M (tn (U jb)) jn jm0) (i * M + (j + 1))))), (0, .ref x), (1, .int (nI jb)), (2, .int (nI jm0)), (3, .int (nI jn)), (4, .int w)] := by
                                    rw [show (e3 M (bst (thx P M (tn (U jb)) jn jm0) (i * M + (j + 1)))) = (nI j) from (st_yes (by omega) c11 (Or.inr c19) c23).2.2]
                                    rw [show (e2 M (bst (thx P M (tn (U jb)) jn jm0) (i * M + (j + 1)))) = (nI i) from (st_yes (by omega) c11 (Or.inr c19) c23).2.1]
                                    rw [show (e1 (bst (thx P M (tn (U jb)) jn jm0) (i * M + (j + 1)))) = (fgv P M i j) from (st_yes (by omega) c11 (Or.inr c19) c23).1]
                                    exact (lv_sub hl [0, 6, 1, 2, 3, 7, 8, 9, 10, 11] rfl)
                                  exact ih2 (j + 1) H locs ls (by omega) (by omega) hP hD hS hl25
                  have hl26 : lv_has ls 12 [(9, .int (nI 0)), (8, .int (nI i)), (7, .int (e3 M (bst (thx P M (tn (U jb)) jn jm0) (i * M + 0)))), (6, .int (e2 M (bst (thx P M (tn (U jb)) jn jm0) (i * M + 0)))), (5, .int (e1 (bst (thx P M (tn (U jb)) jn jm0) (i * M + 0)))), (0, .ref x), (1, .int (nI jb)), (2, .int (nI jm0)), (3, .int (nI jn)), (4, .int w)] := by
                    rw [show (e3 M (bst (thx P M (tn (U jb)) jn jm0) (i * M + 0))) = (e3 M (bst (thx P M (tn (U jb)) jn jm0) (i * M))) from rfl]
                    rw [show (e2 M (bst (thx P M (tn (U jb)) jn jm0) (i * M + 0))) = (e2 M (bst (thx P M (tn (U jb)) jn jm0) (i * M))) from rfl]
                    rw [show (e1 (bst (thx P M (tn (U jb)) jn jm0) (i * M + 0))) = (e1 (bst (thx P M (tn (U jb)) jn jm0) (i * M))) from rfl]
                    exact (lv_sub hl [0, 1, 2, 3, 4, 5, 6, 7, 8, 9] rfl)
                  exact loop2 (M + 1) 0 H locs ls (by omega) (by omega) hP hD hS hl26
            have hl27 : lv_has ls 12 [(8, .int (nI 0)), (7, .int (e3 M (bst (thx P M (tn (U jb)) jn jm0) (0 * M)))), (6, .int (e2 M (bst (thx P M (tn (U jb)) jn jm0) (0 * M)))), (5, .int (e1 (bst (thx P M (tn (U jb)) jn jm0) (0 * M)))), (0, .ref x), (1, .int (nI jb)), (2, .int (nI jm0)), (3, .int (nI jn)), (4, .int w)] := by
              rw [show (e3 M (bst (thx P M (tn (U jb)) jn jm0) (0 * M))) = ((-9)) from by rw [Nat.zero_mul]; rfl]
              rw [show (e2 M (bst (thx P M (tn (U jb)) jn jm0) (0 * M))) = ((-9)) from by rw [Nat.zero_mul]; rfl]
              rw [show (e1 (bst (thx P M (tn (U jb)) jn jm0) (0 * M))) = ((-9)) from by rw [Nat.zero_mul]; rfl]
              exact (lv_sub hl [0, 1, 2, 3, 4, 5, 6, 7, 8] rfl)
            exact loop1 (M + 1) 0 H locs ls (by omega) (by omega) hP hD hS hl27
          ·
            refine lv_iload hx hb dX4_forge_58 (lv_at hl 4 rfl) ?_
            refine lv_if_ne (tgt := 67) hx hb dX4_forge_60 (by decide) (fun c28 => ?_) (fun c28 => ?_)
            ·
              refine lv_bipush (v := (-9)) hx hb dX4_forge_67 (by decide) ?_
              exact hret _ _ _ _ _ (by first | with_reducible rfl | (simp only [s_forge, fgr, fgG, iF_t c1, iF_t c2, iF_t c3, iF_t c4, iF_t c5, iF_f c28, tn_nI (show jb < 2 ^ 31 by omega), tn_nI (show jm0 < 2 ^ 31 by omega), tn_nI (show jn < 2 ^ 31 by omega)]; done) | contradiction) (by first | with_reducible exact hP | (simp only [s_forge, fgr, fgG, iF_t c1, iF_t c2, iF_t c3, iF_t c4, iF_t c5, iF_f c28, tn_nI (show jb < 2 ^ 31 by omega), tn_nI (show jm0 < 2 ^ 31 by omega), tn_nI (show jn < 2 ^ 31 by omega)]; with_reducible exact hP) | contradiction | (simp only [s_forge, fgr, fgG, iF_t c1, iF_t c2, iF_t c3, iF_t c4, iF_t c5, iF_f c28, tn_nI (show jb < 2 ^ 31 by omega), tn_nI (show jm0 < 2 ^ 31 by omega), tn_nI (show jn < 2 ^ 31 by omega)]; exact hP) | exact hP) hS dX4_forge_69
            ·
              refine lv_iconst (v := nI 0) hx hb dX4_forge_63 (by decide) ?_
              refine lv_goto (tgt := 69) hx hb dX4_forge_64 (by decide) ?_
              exact hret _ _ _ _ _ (by first | with_reducible rfl | (simp only [s_forge, fgr, fgG, iF_t c1, iF_t c2, iF_t c3, iF_t c4, iF_t c5, iF_t c28, tn_nI (show jb < 2 ^ 31 by omega), tn_nI (show jm0 < 2 ^ 31 by omega), tn_nI (show jn < 2 ^ 31 by omega)]; done) | contradiction) (by first | with_reducible exact hP | (simp only [s_forge, fgr, fgG, iF_t c1, iF_t c2, iF_t c3, iF_t c4, iF_t c5, iF_t c28, tn_nI (show jb < 2 ^ 31 by omega), tn_nI (show jm0 < 2 ^ 31 by omega), tn_nI (show jn < 2 ^ 31 by omega)]; with_reducible exact hP) | contradiction | (simp only [s_forge, fgr, fgG, iF_t c1, iF_t c2, iF_t c3, iF_t c4, iF_t c5, iF_t c28, tn_nI (show jb < 2 ^ 31 by omega), tn_nI (show jm0 < 2 ^ 31 by omega), tn_nI (show jn < 2 ^ 31 by omega)]; exact hP) | exact hP) hS dX4_forge_69
        ·
          refine lv_bipush (v := (-2)) hx hb dX4_forge_42 (by decide) ?_
          exact hret _ _ _ _ _ (by first | with_reducible rfl | (simp only [s_forge, fgr, fgG, iF_t c1, iF_t c2, iF_t c3, iF_f c4, tn_nI (show jb < 2 ^ 31 by omega), tn_nI (show jm0 < 2 ^ 31 by omega), tn_nI (show jn < 2 ^ 31 by omega)]; done) | contradiction) (by first | with_reducible exact hP | (simp only [s_forge, fgr, fgG, iF_t c1, iF_t c2, iF_t c3, iF_f c4, tn_nI (show jb < 2 ^ 31 by omega), tn_nI (show jm0 < 2 ^ 31 by omega), tn_nI (show jn < 2 ^ 31 by omega)]; with_reducible exact hP) | contradiction | (simp only [s_forge, fgr, fgG, iF_t c1, iF_t c2, iF_t c3, iF_f c4, tn_nI (show jb < 2 ^ 31 by omega), tn_nI (show jm0 < 2 ^ 31 by omega), tn_nI (show jn < 2 ^ 31 by omega)]; exact hP) | exact hP) hS dX4_forge_44
    ·
      refine lv_iconst (v := (-1)) hx hb dX4_forge_22 (by decide) ?_
      exact hret _ _ _ _ _ (by first | with_reducible rfl | (simp only [s_forge, fgr, fgG, iF_t c1, iF_f c2, tn_nI (show jb < 2 ^ 31 by omega)]; done) | contradiction) (by first | with_reducible exact hP | (simp only [s_forge, fgr, fgG, iF_t c1, iF_f c2, tn_nI (show jb < 2 ^ 31 by omega)]; with_reducible exact hP) | contradiction | (simp only [s_forge, fgr, fgG, iF_t c1, iF_f c2, tn_nI (show jb < 2 ^ 31 by omega)]; exact hP) | exact hP) hS dX4_forge_23
