theorem ixX4_forgedPence_X4 : ∀ w ∈ wsX40, w ∈ wsX4_forgedPence := fun _ h => List.mem_cons_of_mem _ (List.mem_append_left _ (List.mem_append_right _ h))
theorem lkX4_forgedPence_12 : Cond.fieldLink RX4 12 (TX4 0).1 (TX4 0).2.1 (TX4 0).2.2.1 ∈ wsX4_forgedPence := List.mem_of_getElem? (i := 1) rfl
theorem lkX4_forgedPence_18 : Cond.fieldLink RX4 18 (TX4 1).1 (TX4 1).2.1 (TX4 1).2.2.1 ∈ wsX4_forgedPence := List.mem_of_getElem? (i := 2) rfl
set_option maxHeartbeats 4000000 in
set_option maxRecDepth 100000 in
theorem kX4_forgedPence (l : Launch) (G : Gl) (x : Nat) (st : Nat) (tr : Nat) (ra : Nat) (sa : Nat) (R : Nat) (tc : Int32) (fl : Int32) (ap : Nat) (ak : Nat) (ao : Nat) (M : Nat) (B : Nat) (P : Nat → Int32) (tp : Nat) (tk : Nat) (to : Nat) (a : Nat) (c0 : Nat) (hM : M ≤ 5) (ha : a < M) (hc0 : c0 < M) (hz : ∀ j, j < M → P (j * 5 + j) = nI 0) (h9 : P9 P M) : Wt l G yX4_forgedPence wsX4_forgedPence ({ frames := 2, cells := 0, slots := 0, locals := 46 } : Room) [.ref x, .int (nI a), .int (nI c0)] [(x, .inr (4, [.ref st, .ref tr, .ref ra, .int (nI R), .ref sa, .int tc, .int fl])), (st, .inr (2, [.ref ap, .ref ak, .ref ao, .int (nI M), .int (nI B)])), (ap, aI G 25 P), (tr, .inr (2, [.ref tp, .ref tk, .ref to, .int (nI M), .int (nI B)])), (tp, aI G 25 P)] [(x, .inr (4, [.ref st, .ref tr, .ref ra, .int (nI R), .ref sa, .int tc, .int fl])), (st, .inr (2, [.ref ap, .ref ak, .ref ao, .int (nI M), .int (nI B)])), (ap, aI G 25 P), (tr, .inr (2, [.ref tp, .ref tk, .ref to, .int (nI M), .int (nI B)])), (tp, aI G 25 (fgA P M a c0))] (some (.int (fgv P M a c0))) := by
  refine Wt.ofI (cc := cX4_forgedPence) (maxL := 5) (by decide) rfl (Nat.le_of_ble_eq_true rfl) ?_
  intro p e s m below meth c Q A ls hE hP hK hD hS hl hret
  obtain ⟨hx, hb, hml, hown, hts⟩ := id hE
  have hl : lv_has ls 5 [(0, .ref x), (1, .int (nI a)), (2, .int (nI c0))] := hl
  refine lv_iload_n hx hb dX4_forgedPence_0 rfl (lv_at hl 1 rfl) ?_
  refine lv_iload_n hx hb dX4_forgedPence_1 rfl (lv_at hl 2 rfl) ?_
  refine ic_eq (tgt := 17) hx hb (by omega) (by omega) dX4_forgedPence_2 (by decide) (fun c1 => ?_) (fun c1 => ?_)
  ·
    refine lv_bipush (v := (-9)) hx hb dX4_forgedPence_17 (by decide) ?_
    exact hret _ _ _ _ _ (by first | with_reducible rfl | (simp only [fgv, fgA, iF_t c1]; done) | contradiction) (by first | with_reducible exact hP | (simp only [fgv, fgA, iF_t c1]; with_reducible exact hP) | contradiction | (simp only [fgv, fgA, iF_t c1]; exact hP) | exact hP) hS dX4_forgedPence_19
  ·
    refine lv_aload_n hx hb dX4_forgedPence_5 rfl (lv_at hl 0 rfl) ?_
    refine g_get (v := .ref st) hx hb hts ixX4_forgedPence_X4 hown hK hP 0 rfl rfl 0 (by decide) lkX4_forgedPence_12 rfl dX4_forgedPence_6 ?_
    refine lv_iload_n hx hb dX4_forgedPence_9 rfl (lv_at hl 1 rfl) ?_
    refine rdV (As := [.int (nI a)]) (rest := []) (ci := 2) (q0 := 1) hE (kX2_nextOf l G st ap ak ao M B P a hM ha (by first | omega | assumption | exact hU _ (by omega) | exact hz _ (by omega) | exact hK3 _ (by omega) | exact h9 _ _ (by omega) (by omega))) (cwV 1 hts gX4_forgedPence_X2_nextOf rfl rfl rfl (by decide +kernel) ⟨Nat.le_of_ble_eq_true rfl, Nat.le_of_ble_eq_true rfl⟩) hP hK [1, 2] rfl rfl rfl rfl hl.1 rfl (Nat.le_of_ble_eq_true rfl) dX4_forgedPence_10 ⟨Nat.zero_le _, Nat.zero_le _⟩ ?_
    refine W.eq (g2 := F0 m 13 ls [.int (nI (nxt P M a))]) rfl ?_
    have hnl := nxt_lt (P := P) ha
    refine lv_iload_n hx hb dX4_forgedPence_13 rfl (lv_at hl 2 rfl) ?_
    refine ic_ne (tgt := 20) hx hb (by omega) (by omega) dX4_forgedPence_14 (by decide) (fun c2 => ?_) (fun c2 => ?_)
    ·
      refine lv_aload_n hx hb dX4_forgedPence_20 rfl (lv_at hl 0 rfl) ?_
      refine g_get (v := .ref st) hx hb hts ixX4_forgedPence_X4 hown hK hP 0 rfl rfl 0 (by decide) lkX4_forgedPence_12 rfl dX4_forgedPence_21 ?_
      refine lv_iload_n hx hb dX4_forgedPence_24 rfl (lv_at hl 1 rfl) ?_
      refine lv_iload_n hx hb dX4_forgedPence_25 rfl (lv_at hl 2 rfl) ?_
      refine rdV (As := [.int (nI a), .int (nI c0)]) (rest := []) (ci := 2) (q0 := 1) hE (kX2_debt l G st ap ak ao M B P a c0 (by first | omega | assumption | exact hU _ (by omega) | exact hz _ (by omega) | exact hK3 _ (by omega) | exact h9 _ _ (by omega) (by omega))) (cwV 2 hts gX4_forgedPence_X2_debt rfl rfl rfl (by decide +kernel) ⟨Nat.le_of_ble_eq_true rfl, Nat.le_of_ble_eq_true rfl⟩) hP hK [1, 2] rfl rfl rfl rfl hl.1 rfl (Nat.le_of_ble_eq_true rfl) dX4_forgedPence_26 ⟨Nat.zero_le _, Nat.zero_le _⟩ ?_
      refine W.eq (g2 := F0 m 29 ls [.int (P (a * 5 + c0))]) rfl ?_
      refine lv_tope (show P (a * 5 + c0) = nI (tn (P (a * 5 + c0))) from tn_of (h9 a c0 ha hc0) (by omega)) ?_
      refine lv_istore_n (lv' := [(3, .int (nI (tn (P (a * 5 + c0))))), (0, .ref x), (1, .int (nI a)), (2, .int (nI c0))]) hx hb dX4_forgedPence_29 rfl hl (by decide) rfl (fun ls hl => ?_)
      have hp9 := tn_lt (h9 a c0 ha hc0) (by omega)
      refine lv_iload_n hx hb dX4_forgedPence_30 rfl (lv_at hl 0 rfl) ?_
      refine lv_iconst (v := nI 1) hx hb dX4_forgedPence_31 (by decide) ?_
      refine lv_iadd hx hb dX4_forgedPence_32 ?_
      refine lv_tope (show (nI (tn (P (a * 5 + c0)))) + (nI 1) = nI ((tn (P (a * 5 + c0))) + 1) from nI_add _ _) ?_
      refine lv_istore (lv' := [(4, .int (nI ((tn (P (a * 5 + c0))) + 1))), (3, .int (nI (tn (P (a * 5 + c0))))), (0, .ref x), (1, .int (nI a)), (2, .int (nI c0))]) hx hb dX4_forgedPence_33 hl (by decide) rfl (fun ls hl => ?_)
      have loop1 : ∀ (d k : Nat) (H : Heap) (locs : List Loc) (ls : Array Slot), 9 - tn (P (a * 5 + c0)) < k + d → k ≤ 9 - tn (P (a * 5 + c0)) → (fi (fun k => nxt (upd P (a * 5 + c0) (nI (tn (P (a * 5 + c0)) + 1 + k))) M a = c0) k = none) → va_P G.1 vwCl [(x, .inr (4, [.ref st, .ref tr, .ref ra, .int (nI R), .ref sa, .int tc, .int fl])), (st, .inr (2, [.ref ap, .ref ak, .ref ao, .int (nI M), .int (nI B)])), (ap, aI G 25 P), (tr, .inr (2, [.ref tp, .ref tk, .ref to, .int (nI M), .int (nI B)])), (tp, aI G 25 (dbq P (a * 5 + c0) (tn (P (a * 5 + c0))) k))] H → va_D A [(x, .inr (4, [.ref st, .ref tr, .ref ra, .int (nI R), .ref sa, .int tc, .int fl])), (st, .inr (2, [.ref ap, .ref ak, .ref ao, .int (nI M), .int (nI B)])), (ap, aI G 25 P), (tr, .inr (2, [.ref tp, .ref tk, .ref to, .int (nI M), .int (nI B)])), (tp, aI G 25 (dbq P (a * 5 + c0) (tn (P (a * 5 + c0))) k))] → va_S A s.heap H locs → lv_has ls 5 [(4, .int (nI ((tn (P (a * 5 + c0)) + 1) + k))), (3, .int (nI (tn (P (a * 5 + c0))))), (0, .ref x), (1, .int (nI a)), (2, .int (nI c0))] → W p l e ({ frames := 2, cells := 0, slots := 0, locals := 46 } : Room) s m ([.ref x, .int (nI a), .int (nI c0)] : List Value).toArray below meth c H locs 0 0 Q (F0 m 35 ls []) := by
        intro d
        induction d with
        | zero =>
          intro k H locs ls h1 h2
          omega
        | succ d ih1 =>
          intro k H locs ls hdk hbk hk hP hD hS hl
          refine lv_iload hx hb dX4_forgedPence_35 (lv_at hl 0 rfl) ?_
          refine lv_bipush (v := nI 9) hx hb dX4_forgedPence_37 (by decide) ?_
          refine ic_gt (tgt := 76) hx hb (by omega) (by omega) dX4_forgedPence_39 (by decide) (fun c3 => ?_) (fun c3 => ?_)
          ·
            obtain rfl : 9 - tn (P (a * 5 + c0)) = k := by omega
            have hfq : fgq P M a c0 = none := hk
            refine lv_bipush (v := (-9)) hx hb dX4_forgedPence_76 (by decide) ?_
            exact hret _ _ _ _ _ (by simp only [fgv, fgv, fgA, iF_f c1, iF_f c2, iF_t c3]; rw [hfq]; rfl) (by simp only [fgA, fgv, fgA, iF_f c1, iF_f c2, iF_t c3]; rw [hfq]; exact hP) hS dX4_forgedPence_78
          ·
            refine lv_aload_n hx hb dX4_forgedPence_42 rfl (lv_at hl 2 rfl) ?_
            refine g_get (v := .ref tr) hx hb hts ixX4_forgedPence_X4 hown hK hP 0 rfl rfl 1 (by decide) lkX4_forgedPence_18 rfl dX4_forgedPence_43 ?_
            refine lv_iload_n hx hb dX4_forgedPence_46 rfl (lv_at hl 3 rfl) ?_
            refine lv_iload_n hx hb dX4_forgedPence_47 rfl (lv_at hl 4 rfl) ?_
            refine lv_iload hx hb dX4_forgedPence_48 (lv_at hl 0 rfl) ?_
            refine wtV (As := [.int (nI a), .int (nI c0), .int (nI ((tn (P (a * 5 + c0)) + 1) + k))]) (rest := []) (ci := 2) (q0 := 3) hE (kX2_setDebt l G tr tp tk to (nI M) (nI B) (dbq P (a * 5 + c0) (tn (P (a * 5 + c0))) k) a c0 (nI ((tn (P (a * 5 + c0)) + 1) + k)) (by first | omega | assumption | exact hU _ (by omega) | exact hz _ (by omega) | exact hK3 _ (by omega) | exact h9 _ _ (by omega) (by omega))) (cwV 3 hts gX4_forgedPence_X2_setDebt rfl rfl rfl (by decide +kernel) ⟨Nat.le_of_ble_eq_true rfl, Nat.le_of_ble_eq_true rfl⟩) hP hK hD hS [3, 4] (by decide) rfl (Eq.trans (b := [tr, tp]) rfl rfl) (W1 := [(x, .inr (4, [.ref st, .ref tr, .ref ra, .int (nI R), .ref sa, .int tc, .int fl])), (st, .inr (2, [.ref ap, .ref ak, .ref ao, .int (nI M), .int (nI B)])), (ap, aI G 25 P), (tr, .inr (2, [.ref tp, .ref tk, .ref to, .int (nI M), .int (nI B)])), (tp, aI G 25 (upd (dbq P (a * 5 + c0) (tn (P (a * 5 + c0))) k) (a * 5 + c0) (nI ((tn (P (a * 5 + c0)) + 1) + k))))]) rfl rfl rfl rfl hl.1 rfl (Nat.le_of_ble_eq_true rfl) dX4_forgedPence_50 ⟨Nat.zero_le _, Nat.zero_le _⟩ (fun H locs hP hD hS => ?_)
            refine W.eq (g2 := F0 m 53 ls []) rfl ?_
            have hP : va_P G.1 vwCl [(x, .inr (4, [.ref st, .ref tr, .ref ra, .int (nI R), .ref sa, .int tc, .int fl])), (st, .inr (2, [.ref ap, .ref ak, .ref ao, .int (nI M), .int (nI B)])), (ap, aI G 25 P), (tr, .inr (2, [.ref tp, .ref tk, .ref to, .int (nI M), .int (nI B)])), (tp, aI G 25 (upd P (a * 5 + c0) (nI (tn (P (a * 5 + c0)) + 1 + k))))] H := by have h0 := hP; rw [dbq_upd P (a * 5 + c0) (tn (P (a * 5 + c0))) (nI (tn (P (a * 5 + c0)) + 1 + k)) k] at h0; exact h0
            have hD : va_D A [(x, .inr (4, [.ref st, .ref tr, .ref ra, .int (nI R), .ref sa, .int tc, .int fl])), (st, .inr (2, [.ref ap, .ref ak, .ref ao, .int (nI M), .int (nI B)])), (ap, aI G 25 P), (tr, .inr (2, [.ref tp, .ref tk, .ref to, .int (nI M), .int (nI B)])), (tp, aI G 25 (upd P (a * 5 + c0) (nI (tn (P (a * 5 + c0)) + 1 + k))))] := by have h0 := hD; rw [dbq_upd P (a * 5 + c0) (tn (P (a * 5 + c0))) (nI (tn (P (a * 5 + c0)) + 1 + k)) k] at h0; exact h0
            refine lv_aload_n hx hb dX4_forgedPence_53 rfl (lv_at hl 2 rfl) ?_
            refine g_get (v := .ref tr) hx hb hts ixX4_forgedPence_X4 hown hK hP 0 rfl rfl 1 (by decide) lkX4_forgedPence_18 rfl dX4_forgedPence_54 ?_
            refine lv_iload_n hx hb dX4_forgedPence_57 rfl (lv_at hl 3 rfl) ?_
            refine rdV (As := [.int (nI a)]) (rest := []) (ci := 2) (q0 := 3) hE (kX2_nextOf l G tr tp tk to M B (upd P (a * 5 + c0) (nI (tn (P (a * 5 + c0)) + 1 + k))) a hM ha (hz_upd hM ha hc0 (by omega) hz a ha)) (cwV 1 hts gX4_forgedPence_X2_nextOf rfl rfl rfl (by decide +kernel) ⟨Nat.le_of_ble_eq_true rfl, Nat.le_of_ble_eq_true rfl⟩) hP hK [3, 4] rfl rfl rfl rfl hl.1 rfl (Nat.le_of_ble_eq_true rfl) dX4_forgedPence_58 ⟨Nat.zero_le _, Nat.zero_le _⟩ ?_
            refine W.eq (g2 := F0 m 61 ls [.int (nI (nxt (upd P (a * 5 + c0) (nI (tn (P (a * 5 + c0)) + 1 + k))) M a))]) rfl ?_
            have hnl2 := nxt_lt (P := upd P (a * 5 + c0) (nI (tn (P (a * 5 + c0)) + 1 + k))) ha
            refine lv_iload_n hx hb dX4_forgedPence_61 rfl (lv_at hl 4 rfl) ?_
            refine ic_ne (tgt := 70) hx hb (by omega) (by omega) dX4_forgedPence_62 (by decide) (fun c4 => ?_) (fun c4 => ?_)
            ·
              refine lv_iinc (v := nI (((tn (P (a * 5 + c0)) + 1) + k) + 1)) (lv' := [(4, .int (nI (((tn (P (a * 5 + c0)) + 1) + k) + 1))), (3, .int (nI (tn (P (a * 5 + c0))))), (0, .ref x), (1, .int (nI a)), (2, .int (nI c0))]) hx hb dX4_forgedPence_70 hl (k := 0) rfl (show nI ((tn (P (a * 5 + c0)) + 1) + k) + Int32.ofInt 1 = nI (((tn (P (a * 5 + c0)) + 1) + k) + 1) from nI_add _ 1) (by decide) rfl (fun ls hl => ?_)
              refine lv_goto (tgt := 35) hx hb dX4_forgedPence_73 (by decide) ?_
              have hl5 : lv_has ls 5 [(4, .int (nI ((tn (P (a * 5 + c0)) + 1) + (k + 1)))), (3, .int (nI (tn (P (a * 5 + c0))))), (0, .ref x), (1, .int (nI a)), (2, .int (nI c0))] := by
                rw [show (nI ((tn (P (a * 5 + c0)) + 1) + (k + 1))) = (nI (((tn (P (a * 5 + c0)) + 1) + k) + 1)) from by first | rfl | simp only [dbq, iF_f c1, iF_f c2, iF_f (Nat.not_lt.mpr c3), iF_f c4]]
                exact (lv_sub hl [0, 1, 2, 3, 4] rfl)
              have hP6 : va_P G.1 vwCl [(x, .inr (4, [.ref st, .ref tr, .ref ra, .int (nI R), .ref sa, .int tc, .int fl])), (st, .inr (2, [.ref ap, .ref ak, .ref ao, .int (nI M), .int (nI B)])), (ap, aI G 25 P), (tr, .inr (2, [.ref tp, .ref tk, .ref to, .int (nI M), .int (nI B)])), (tp, aI G 25 (dbq P (a * 5 + c0) (tn (P (a * 5 + c0))) (k + 1)))] H := by
                rw [show (dbq P (a * 5 + c0) (tn (P (a * 5 + c0))) (k + 1)) = (upd P (a * 5 + c0) (nI (tn (P (a * 5 + c0)) + 1 + k))) from by first | rfl | simp only [dbq, iF_f c1, iF_f c2, iF_f (Nat.not_lt.mpr c3), iF_f c4]]
                exact hP
              have hD6 : va_D A [(x, .inr (4, [.ref st, .ref tr, .ref ra, .int (nI R), .ref sa, .int tc, .int fl])), (st, .inr (2, [.ref ap, .ref ak, .ref ao, .int (nI M), .int (nI B)])), (ap, aI G 25 P), (tr, .inr (2, [.ref tp, .ref tk, .ref to, .int (nI M), .int (nI B)])), (tp, aI G 25 (dbq P (a * 5 + c0) (tn (P (a * 5 + c0))) (k + 1)))] := by
                rw [show (dbq P (a * 5 + c0) (tn (P (a * 5 + c0))) (k + 1)) = (upd P (a * 5 + c0) (nI (tn (P (a * 5 + c0)) + 1 + k))) from by first | rfl | simp only [dbq, iF_f c1, iF_f c2, iF_f (Nat.not_lt.mpr c3), iF_f c4]]
                exact hD
              exact ih1 (k + 1) H locs ls (by omega) (by omega) (fi_miss hk c4) hP6 hD6 hS hl5
            ·
              have hfq : fgq P M a c0 = some k := fi_hit hk c4 (by omega)
              refine lv_iload hx hb dX4_forgedPence_65 (lv_at hl 0 rfl) ?_
              refine lv_iload_n hx hb dX4_forgedPence_67 rfl (lv_at hl 1 rfl) ?_
              refine lv_isub hx hb dX4_forgedPence_68 ?_
              refine lv_tope (show (nI ((tn (P (a * 5 + c0)) + 1) + k)) - (nI (tn (P (a * 5 + c0)))) = nI (((tn (P (a * 5 + c0)) + 1) + k) - (tn (P (a * 5 + c0)))) from pk_sub (by omega)) ?_
              exact hret _ _ _ _ _ (by simp only [fgv, fgv, fgA, iF_f c1, iF_f c2, iF_f (Nat.not_lt.mpr c3), iF_t c4]; rw [hfq]; exact congrArg nI (by omega)) (by simp only [fgA, fgv, fgA, iF_f c1, iF_f c2, iF_f (Nat.not_lt.mpr c3), iF_t c4]; rw [hfq]; exact hP) hS dX4_forgedPence_69
      have hl7 : lv_has ls 5 [(4, .int (nI ((tn (P (a * 5 + c0)) + 1) + 0))), (3, .int (nI (tn (P (a * 5 + c0))))), (0, .ref x), (1, .int (nI a)), (2, .int (nI c0))] := by
        rw [show (nI ((tn (P (a * 5 + c0)) + 1) + 0)) = (nI ((tn (P (a * 5 + c0))) + 1)) from by first | rfl | simp only [dbq, iF_f c1, iF_f c2]]
        exact (lv_sub hl [0, 1, 2, 3, 4] rfl)
      have hP8 : va_P G.1 vwCl [(x, .inr (4, [.ref st, .ref tr, .ref ra, .int (nI R), .ref sa, .int tc, .int fl])), (st, .inr (2, [.ref ap, .ref ak, .ref ao, .int (nI M), .int (nI B)])), (ap, aI G 25 P), (tr, .inr (2, [.ref tp, .ref tk, .ref to, .int (nI M), .int (nI B)])), (tp, aI G 25 (dbq P (a * 5 + c0) (tn (P (a * 5 + c0))) 0))] s.heap := by
        rw [show (dbq P (a * 5 + c0) (tn (P (a * 5 + c0))) 0) = (P) from by first | rfl | simp only [dbq, iF_f c1, iF_f c2]]
        exact hP
      have hD8 : va_D A [(x, .inr (4, [.ref st, .ref tr, .ref ra, .int (nI R), .ref sa, .int tc, .int fl])), (st, .inr (2, [.ref ap, .ref ak, .ref ao, .int (nI M), .int (nI B)])), (ap, aI G 25 P), (tr, .inr (2, [.ref tp, .ref tk, .ref to, .int (nI M), .int (nI B)])), (tp, aI G 25 (dbq P (a * 5 + c0) (tn (P (a * 5 + c0))) 0))] := by
        rw [show (dbq P (a * 5 + c0) (tn (P (a * 5 + c0))) 0) = (P) from by first | rfl | simp only [dbq, iF_f c1, iF_f c2]]
        exact hD
      exact loop1 ((9 - tn (P (a * 5 + c0))) + 1) 0 s.heap [] ls (by omega) (by omega) rfl hP8 hD8 hS hl7
    ·
      refine lv_bipush (v := (-9)) hx hb dX4_forgedPence_17 (by decide) ?_
      exact hret _ _ _ _ _ (by first | with_reducible rfl | (simp only [fgv, fgA, iF_f c1, iF_t c2]; done) | contradiction) (by first | with_reducible exact hP | (simp only [fgv, fgA, iF_f c1, iF_t c2]; with_reducible exact hP) | contradiction | (simp only [fgv, fgA, iF_f c1, iF_t c2]; exact hP) | exact hP) hS dX4_forgedPence_19
