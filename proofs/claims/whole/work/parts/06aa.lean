theorem ixX4_tryPaidBy_X4 : ∀ w ∈ wsX40, w ∈ wsX4_tryPaidBy := fun _ h => List.mem_cons_of_mem _ (List.mem_append_left _ (List.mem_append_right _ h))
theorem lkX4_tryPaidBy_18 : Cond.fieldLink RX4 18 (TX4 1).1 (TX4 1).2.1 (TX4 1).2.2.1 ∈ wsX4_tryPaidBy := List.mem_of_getElem? (i := 1) rfl
theorem lkX4_tryPaidBy_12 : Cond.fieldLink RX4 12 (TX4 0).1 (TX4 0).2.1 (TX4 0).2.2.1 ∈ wsX4_tryPaidBy := List.mem_of_getElem? (i := 2) rfl
theorem ixX4_tryPaidBy_X2 : ∀ w ∈ wsX20, w ∈ wsX4_tryPaidBy := fun _ h => List.mem_cons_of_mem _ (List.mem_append_right _ h)
set_option maxHeartbeats 4000000 in
set_option maxRecDepth 100000 in
theorem kX4_tryPaidBy (l : Launch) (G : Gl) (x : Nat) (st : Nat) (tr : Nat) (ra : Nat) (sa : Nat) (R : Nat) (tc : Int32) (fl : Int32) (ap : Nat) (ak : Nat) (ao : Nat) (M : Nat) (B : Nat) (P : Nat → Int32) (K : Nat → Int32) (U : Nat → Int32) (tp : Nat) (tk : Nat) (to : Nat) (tM : Int32) (tB : Int32) (P2 : Nat → Int32) (K2 : Nat → Int32) (U2 : Nat → Int32) (pay : Nat) (hM : M ≤ 5) (hz : ∀ j, j < M → P (j * 5 + j) = nI 0) (hpay : pay < 2 ^ 31) : Wt l G yX4_tryPaidBy wsX4_tryPaidBy ({ frames := 2, cells := 0, slots := 0, locals := 46 } : Room) [.ref x, .int (nI pay)] [(x, .inr (4, [.ref st, .ref tr, .ref ra, .int (nI R), .ref sa, .int tc, .int fl])), (st, .inr (2, [.ref ap, .ref ak, .ref ao, .int (nI M), .int (nI B)])), (ap, aI G 25 P), (ak, aI G 4 K), (ao, aI G 4 U), (tr, .inr (2, [.ref tp, .ref tk, .ref to, .int tM, .int tB])), (tp, aI G 25 P2), (tk, aI G 4 K2), (to, aI G 4 U2)] [(x, .inr (4, [.ref st, .ref tr, .ref ra, .int (nI R), .ref sa, .int tc, .int fl])), (st, .inr (2, [.ref ap, .ref ak, .ref ao, .int (nI M), .int (nI B)])), (ap, aI G 25 P), (ak, aI G 4 K), (ao, aI G 4 U), (tr, .inr (2, [.ref tp, .ref tk, .ref to, .int (nI M), .int (nI B)])), (tp, aI G 25 (pdp P M pay M)), (tk, aI G 4 K), (to, aI G 4 U)] none := by
  refine Wt.ofV (cc := cX4_tryPaidBy) (maxL := 3) (by decide) rfl (Nat.le_of_ble_eq_true rfl) ?_
  intro p e s m below meth c Q A ls hE hin hP hK hD hS hl hret
  obtain ⟨hx, hb, hml, hown, hts⟩ := id hE
  have hl : lv_has ls 3 [(0, .ref x), (1, .int (nI pay))] := hl
  refine lv_aload_n hx hb dX4_tryPaidBy_0 rfl (lv_at hl 0 rfl) ?_
  refine g_get (v := .ref tr) hx hb hts ixX4_tryPaidBy_X4 hown hK hP 0 rfl rfl 1 (by decide) lkX4_tryPaidBy_18 rfl dX4_tryPaidBy_1 ?_
  refine lv_aload_n hx hb dX4_tryPaidBy_4 rfl (lv_at hl 0 rfl) ?_
  refine g_get (v := .ref st) hx hb hts ixX4_tryPaidBy_X4 hown hK hP 0 rfl rfl 0 (by decide) lkX4_tryPaidBy_12 rfl dX4_tryPaidBy_5 ?_
  refine wtV (As := [.ref st]) (rest := []) (ci := 2) (q0 := 5) hE (kX2_takeOver l G tr tp tk to tM tB P2 K2 U2 st ap ak ao M B P K U ) (cwV 1 hts gX4_tryPaidBy_X2_takeOver rfl rfl rfl (by decide +kernel) ⟨Nat.le_of_ble_eq_true rfl, Nat.le_of_ble_eq_true rfl⟩) hP hK hD hS [5, 6, 7, 8, 1, 2, 3, 4] (by decide) rfl (Eq.trans (b := [tr, tp, tk, to, st, ap, ak, ao]) rfl rfl) (W1 := [(x, .inr (4, [.ref st, .ref tr, .ref ra, .int (nI R), .ref sa, .int tc, .int fl])), (st, .inr (2, [.ref ap, .ref ak, .ref ao, .int (nI M), .int (nI B)])), (ap, aI G 25 P), (ak, aI G 4 K), (ao, aI G 4 U), (tr, .inr (2, [.ref tp, .ref tk, .ref to, .int (nI M), .int (nI B)])), (tp, aI G 25 P), (tk, aI G 4 K), (to, aI G 4 U)]) rfl rfl rfl rfl hl.1 rfl (Nat.le_of_ble_eq_true rfl) dX4_tryPaidBy_8 ⟨Nat.zero_le _, Nat.zero_le _⟩ (fun H locs hP hD hS => ?_)
  refine W.eq (g2 := F0 m 11 ls []) rfl ?_
  refine lv_iconst (v := nI 0) hx hb dX4_tryPaidBy_11 (by decide) ?_
  refine lv_istore_n (lv' := [(2, .int (nI 0)), (0, .ref x), (1, .int (nI pay))]) hx hb dX4_tryPaidBy_12 rfl hl (by decide) rfl (fun ls hl => ?_)
  have loop1 : ∀ (d k : Nat) (H : Heap) (locs : List Loc) (ls : Array Slot), M < k + d → k ≤ M → va_P G.1 vwCl [(x, .inr (4, [.ref st, .ref tr, .ref ra, .int (nI R), .ref sa, .int tc, .int fl])), (st, .inr (2, [.ref ap, .ref ak, .ref ao, .int (nI M), .int (nI B)])), (ap, aI G 25 P), (ak, aI G 4 K), (ao, aI G 4 U), (tr, .inr (2, [.ref tp, .ref tk, .ref to, .int (nI M), .int (nI B)])), (tp, aI G 25 (pdp P M pay k)), (tk, aI G 4 K), (to, aI G 4 U)] H → va_D A [(x, .inr (4, [.ref st, .ref tr, .ref ra, .int (nI R), .ref sa, .int tc, .int fl])), (st, .inr (2, [.ref ap, .ref ak, .ref ao, .int (nI M), .int (nI B)])), (ap, aI G 25 P), (ak, aI G 4 K), (ao, aI G 4 U), (tr, .inr (2, [.ref tp, .ref tk, .ref to, .int (nI M), .int (nI B)])), (tp, aI G 25 (pdp P M pay k)), (tk, aI G 4 K), (to, aI G 4 U)] → va_S A s.heap H locs → lv_has ls 3 [(2, .int (nI k)), (0, .ref x), (1, .int (nI pay))] → W p l e ({ frames := 2, cells := 0, slots := 0, locals := 46 } : Room) s m ([.ref x, .int (nI pay)] : List Value).toArray below meth c H locs 0 0 Q (F0 m 13 ls []) := by
    intro d
    induction d with
    | zero =>
      intro k H locs ls h1 h2
      omega
    | succ d ih1 =>
      intro k H locs ls hdk hbk hP hD hS hl
      refine lv_iload_n hx hb dX4_tryPaidBy_13 rfl (lv_at hl 0 rfl) ?_
      refine lv_aload_n hx hb dX4_tryPaidBy_14 rfl (lv_at hl 1 rfl) ?_
      refine g_get (v := .ref st) hx hb hts ixX4_tryPaidBy_X4 hown hK hP 0 rfl rfl 0 (by decide) lkX4_tryPaidBy_12 rfl dX4_tryPaidBy_15 ?_
      refine g_getN (v := .int (nI M)) hx hb hts ixX4_tryPaidBy_X2 hown hK hP 1 rfl rfl 3 (by decide) nkX4_119 rfl dX4_tryPaidBy_18 ?_
      refine ic_ge (tgt := 56) hx hb (by omega) (by omega) dX4_tryPaidBy_21 (by decide) (fun c1 => ?_) (fun c1 => ?_)
      ·
        obtain rfl : M = k := by omega
        exact hret _ _ _ _ (hP) hS dX4_tryPaidBy_56
      ·
        refine lv_iload_n hx hb dX4_tryPaidBy_24 rfl (lv_at hl 2 rfl) ?_
        refine lv_iload_n hx hb dX4_tryPaidBy_25 rfl (lv_at hl 0 rfl) ?_
        refine lv_ishr hx hb dX4_tryPaidBy_26 ?_
        refine lv_iconst (v := nI 1) hx hb dX4_tryPaidBy_27 (by decide) ?_
        refine lv_iand hx hb dX4_tryPaidBy_28 ?_
        refine lv_iconst (v := nI 1) hx hb dX4_tryPaidBy_29 (by decide) ?_
        refine lv_icmp_ne (tgt := 50) hx hb dX4_tryPaidBy_30 (by decide) (fun c2 => ?_) (fun c2 => ?_)
        ·
          refine lv_iinc (v := nI (k + 1)) (lv' := [(2, .int (nI (k + 1))), (0, .ref x), (1, .int (nI pay))]) hx hb dX4_tryPaidBy_50 hl (k := 0) rfl (show nI k + Int32.ofInt 1 = nI (k + 1) from nI_add _ 1) (by decide) rfl (fun ls hl => ?_)
          refine lv_goto (tgt := 13) hx hb dX4_tryPaidBy_53 (by decide) ?_
          have hP3 : va_P G.1 vwCl [(x, .inr (4, [.ref st, .ref tr, .ref ra, .int (nI R), .ref sa, .int tc, .int fl])), (st, .inr (2, [.ref ap, .ref ak, .ref ao, .int (nI M), .int (nI B)])), (ap, aI G 25 P), (ak, aI G 4 K), (ao, aI G 4 U), (tr, .inr (2, [.ref tp, .ref tk, .ref to, .int (nI M), .int (nI B)])), (tp, aI G 25 (pdp P M pay (k + 1))), (tk, aI G 4 K), (to, aI G 4 U)] H := by
            rw [show (pdp P M pay (k + 1)) = (pdp P M pay k) from by first | rfl | simp only [pdp, iF_t c1, iF_f c2, iF_f (show ¬ ((nI pay) >>> (nI k &&& 31)) &&& (nI 1) = 1 from c2), iF_f (show ¬ pb pay k from c2)]]
            exact hP
          have hD3 : va_D A [(x, .inr (4, [.ref st, .ref tr, .ref ra, .int (nI R), .ref sa, .int tc, .int fl])), (st, .inr (2, [.ref ap, .ref ak, .ref ao, .int (nI M), .int (nI B)])), (ap, aI G 25 P), (ak, aI G 4 K), (ao, aI G 4 U), (tr, .inr (2, [.ref tp, .ref tk, .ref to, .int (nI M), .int (nI B)])), (tp, aI G 25 (pdp P M pay (k + 1))), (tk, aI G 4 K), (to, aI G 4 U)] := by
            rw [show (pdp P M pay (k + 1)) = (pdp P M pay k) from by first | rfl | simp only [pdp, iF_t c1, iF_f c2, iF_f (show ¬ ((nI pay) >>> (nI k &&& 31)) &&& (nI 1) = 1 from c2), iF_f (show ¬ pb pay k from c2)]]
            exact hD
          exact ih1 (k + 1) H locs ls (by omega) (by omega) hP3 hD3 hS (lv_sub hl [0, 1, 2] rfl)
        ·
          have hnl := nxt_lt (P := P) (show k < M by omega)
          refine lv_aload_n hx hb dX4_tryPaidBy_33 rfl (lv_at hl 1 rfl) ?_
          refine g_get (v := .ref tr) hx hb hts ixX4_tryPaidBy_X4 hown hK hP 0 rfl rfl 1 (by decide) lkX4_tryPaidBy_18 rfl dX4_tryPaidBy_34 ?_
          refine lv_iload_n hx hb dX4_tryPaidBy_37 rfl (lv_at hl 0 rfl) ?_
          refine lv_aload_n hx hb dX4_tryPaidBy_38 rfl (lv_at hl 1 rfl) ?_
          refine g_get (v := .ref st) hx hb hts ixX4_tryPaidBy_X4 hown hK hP 0 rfl rfl 0 (by decide) lkX4_tryPaidBy_12 rfl dX4_tryPaidBy_39 ?_
          refine lv_iload_n hx hb dX4_tryPaidBy_42 rfl (lv_at hl 0 rfl) ?_
          refine rdV (As := [.int (nI k)]) (rest := [.int (nI k), .ref tr]) (ci := 2) (q0 := 1) hE (kX2_nextOf l G st ap ak ao M B P k hM c1 (by first | omega | assumption | exact hU _ (by omega) | exact hz _ (by omega) | exact hK3 _ (by omega))) (cwV 1 hts gX4_tryPaidBy_X2_nextOf rfl rfl rfl (by decide +kernel) ⟨Nat.le_of_ble_eq_true rfl, Nat.le_of_ble_eq_true rfl⟩) hP hK [1, 2] rfl rfl rfl rfl hl.1 rfl (Nat.le_of_ble_eq_true rfl) dX4_tryPaidBy_43 ⟨Nat.zero_le _, Nat.zero_le _⟩ ?_
          refine W.eq (g2 := F0 m 46 ls [.int (nI (nxt P M k)), .int (nI k), .ref tr]) rfl ?_
          refine lv_iconst (v := nI 0) hx hb dX4_tryPaidBy_46 (by decide) ?_
          refine wtV (As := [.int (nI k), .int (nI (nxt P M k)), .int (nI 0)]) (rest := []) (ci := 2) (q0 := 5) hE (kX2_setDebt l G tr tp tk to (nI M) (nI B) (pdp P M pay k) k (nxt P M k) (nI 0) (by first | omega | assumption | exact hU _ (by omega) | exact hz _ (by omega) | exact hK3 _ (by omega))) (cwV 3 hts gX4_tryPaidBy_X2_setDebt rfl rfl rfl (by decide +kernel) ⟨Nat.le_of_ble_eq_true rfl, Nat.le_of_ble_eq_true rfl⟩) hP hK hD hS [5, 6] (by decide) rfl (Eq.trans (b := [tr, tp]) rfl rfl) (W1 := [(x, .inr (4, [.ref st, .ref tr, .ref ra, .int (nI R), .ref sa, .int tc, .int fl])), (st, .inr (2, [.ref ap, .ref ak, .ref ao, .int (nI M), .int (nI B)])), (ap, aI G 25 P), (ak, aI G 4 K), (ao, aI G 4 U), (tr, .inr (2, [.ref tp, .ref tk, .ref to, .int (nI M), .int (nI B)])), (tp, aI G 25 (upd (pdp P M pay k) (k * 5 + (nxt P M k)) (nI 0))), (tk, aI G 4 K), (to, aI G 4 U)]) rfl rfl rfl rfl hl.1 rfl (Nat.le_of_ble_eq_true rfl) dX4_tryPaidBy_47 ⟨Nat.zero_le _, Nat.zero_le _⟩ (fun H locs hP hD hS => ?_)
          refine W.eq (g2 := F0 m 50 ls []) rfl ?_
          refine lv_iinc (v := nI (k + 1)) (lv' := [(2, .int (nI (k + 1))), (0, .ref x), (1, .int (nI pay))]) hx hb dX4_tryPaidBy_50 hl (k := 0) rfl (show nI k + Int32.ofInt 1 = nI (k + 1) from nI_add _ 1) (by decide) rfl (fun ls hl => ?_)
          refine lv_goto (tgt := 13) hx hb dX4_tryPaidBy_53 (by decide) ?_
          have hP4 : va_P G.1 vwCl [(x, .inr (4, [.ref st, .ref tr, .ref ra, .int (nI R), .ref sa, .int tc, .int fl])), (st, .inr (2, [.ref ap, .ref ak, .ref ao, .int (nI M), .int (nI B)])), (ap, aI G 25 P), (ak, aI G 4 K), (ao, aI G 4 U), (tr, .inr (2, [.ref tp, .ref tk, .ref to, .int (nI M), .int (nI B)])), (tp, aI G 25 (pdp P M pay (k + 1))), (tk, aI G 4 K), (to, aI G 4 U)] H := by
            rw [show (pdp P M pay (k + 1)) = (upd (pdp P M pay k) (k * 5 + (nxt P M k)) (nI 0)) from by first | rfl | simp only [pdp, iF_t c1, iF_t c2, iF_t (show ((nI pay) >>> (nI k &&& 31)) &&& (nI 1) = 1 from c2), iF_t (show pb pay k from c2)]]
            exact hP
          have hD4 : va_D A [(x, .inr (4, [.ref st, .ref tr, .ref ra, .int (nI R), .ref sa, .int tc, .int fl])), (st, .inr (2, [.ref ap, .ref ak, .ref ao, .int (nI M), .int (nI B)])), (ap, aI G 25 P), (ak, aI G 4 K), (ao, aI G 4 U), (tr, .inr (2, [.ref tp, .ref tk, .ref to, .int (nI M), .int (nI B)])), (tp, aI G 25 (pdp P M pay (k + 1))), (tk, aI G 4 K), (to, aI G 4 U)] := by
            rw [show (pdp P M pay (k + 1)) = (upd (pdp P M pay k) (k * 5 + (nxt P M k)) (nI 0)) from by first | rfl | simp only [pdp, iF_t c1, iF_t c2, iF_t (show ((nI pay) >>> (nI k &&& 31)) &&& (nI 1) = 1 from c2), iF_t (show pb pay k from c2)]]
            exact hD
          exact ih1 (k + 1) H locs ls (by omega) (by omega) hP4 hD4 hS (lv_sub hl [0, 1, 2] rfl)
  have hP5 : va_P G.1 vwCl [(x, .inr (4, [.ref st, .ref tr, .ref ra, .int (nI R), .ref sa, .int tc, .int fl])), (st, .inr (2, [.ref ap, .ref ak, .ref ao, .int (nI M), .int (nI B)])), (ap, aI G 25 P), (ak, aI G 4 K), (ao, aI G 4 U), (tr, .inr (2, [.ref tp, .ref tk, .ref to, .int (nI M), .int (nI B)])), (tp, aI G 25 (pdp P M pay 0)), (tk, aI G 4 K), (to, aI G 4 U)] H := by
    rw [show (pdp P M pay 0) = (P) from by first | rfl | simp only [pdp]]
    exact hP
  have hD5 : va_D A [(x, .inr (4, [.ref st, .ref tr, .ref ra, .int (nI R), .ref sa, .int tc, .int fl])), (st, .inr (2, [.ref ap, .ref ak, .ref ao, .int (nI M), .int (nI B)])), (ap, aI G 25 P), (ak, aI G 4 K), (ao, aI G 4 U), (tr, .inr (2, [.ref tp, .ref tk, .ref to, .int (nI M), .int (nI B)])), (tp, aI G 25 (pdp P M pay 0)), (tk, aI G 4 K), (to, aI G 4 U)] := by
    rw [show (pdp P M pay 0) = (P) from by first | rfl | simp only [pdp]]
    exact hD
  exact loop1 (M + 1) 0 H locs ls (by omega) (by omega) hP5 hD5 hS (lv_sub hl [0, 1, 2] rfl)

theorem ixX4_odds_X4 : ∀ w ∈ wsX40, w ∈ wsX4_odds := fun _ h => List.mem_cons_of_mem _ (List.mem_append_left _ (List.mem_append_right _ h))
theorem lkX4_odds_12 : Cond.fieldLink RX4 12 (TX4 0).1 (TX4 0).2.1 (TX4 0).2.2.1 ∈ wsX4_odds := List.mem_of_getElem? (i := 1) rfl
theorem ixX4_odds_X2 : ∀ w ∈ wsX20, w ∈ wsX4_odds := fun _ h => List.mem_cons_of_mem _ (List.mem_append_right _ h)
theorem lkX4_odds_18 : Cond.fieldLink RX4 18 (TX4 1).1 (TX4 1).2.1 (TX4 1).2.2.1 ∈ wsX4_odds := List.mem_of_getElem? (i := 3) rfl
set_option maxHeartbeats 4000000 in
set_option maxRecDepth 100000 in
theorem kX4_odds (l : Launch) (G : Gl) (x : Nat) (st : Nat) (tr : Nat) (ra : Nat) (sa : Nat) (R : Nat) (tc : Int32) (fl : Int32) (ap : Nat) (ak : Nat) (ao : Nat) (M : Nat) (B : Nat) (P : Nat → Int32) (K : Nat → Int32) (U : Nat → Int32) (tp : Nat) (tk : Nat) (to : Nat) (tM : Int32) (tB : Int32) (P2 : Nat → Int32) (K2 : Nat → Int32) (U2 : Nat → Int32) (b : Int32) (m0 : Int32) (n : Int32) (w : Int32) (hM : M ≤ 5) (hB : B ≤ 4) (hz : ∀ j, j < M → P (j * 5 + j) = nI 0) (hU : ∀ b, b < B → vp_in (U b) M) : Wt l G yX4_odds wsX4_odds ({ frames := 4, cells := 0, slots := 0, locals := 92 } : Room) [.ref x, .int b, .int m0, .int n, .int w] [(x, .inr (4, [.ref st, .ref tr, .ref ra, .int (nI R), .ref sa, .int tc, .int fl])), (st, .inr (2, [.ref ap, .ref ak, .ref ao, .int (nI M), .int (nI B)])), (ap, aI G 25 P), (ak, aI G 4 K), (ao, aI G 4 U), (tr, .inr (2, [.ref tp, .ref tk, .ref to, .int tM, .int tB])), (tp, aI G 25 P2), (tk, aI G 4 K2), (to, aI G 4 U2)] [(x, .inr (4, [.ref st, .ref tr, .ref ra, .int (nI R), .ref sa, .int tc, .int fl])), (st, .inr (2, [.ref ap, .ref ak, .ref ao, .int (nI M), .int (nI B)])), (ap, aI G 25 P), (ak, aI G 4 K), (ao, aI G 4 U), (tr, .inr (2, [.ref tp, .ref tk, .ref to, .int (odG B M b m0 n w (nI M) tM), .int (odG B M b m0 n w (nI B) tB)])), (tp, aI G 25 (odG B M b m0 n w (opF P P2 M (2 ^ M)) P2)), (tk, aI G 4 (odG B M b m0 n w K K2)), (to, aI G 4 (odG B M b m0 n w U U2))] (some (.long (s_odds B M P U b m0 n w))) := by
  refine Wt.ofL (cc := cX4_odds) (maxL := 8) (by decide) rfl (Nat.le_of_ble_eq_true rfl) ?_
  intro p e s m below meth c Q A ls hE hP hK hD hS hl hret
  obtain ⟨hx, hb, hml, hown, hts⟩ := id hE
  have hl : lv_has ls 8 [(0, .ref x), (1, .int b), (2, .int m0), (3, .int n), (4, .int w)] := hl
  refine lv_aload_n hx hb dX4_odds_0 rfl (lv_at hl 0 rfl) ?_
  refine g_get (v := .ref st) hx hb hts ixX4_odds_X4 hown hK hP 0 rfl rfl 0 (by decide) lkX4_odds_12 rfl dX4_odds_1 ?_
  refine lv_iload_n hx hb dX4_odds_4 rfl (lv_at hl 1 rfl) ?_
  refine rdV (As := [.int b]) (rest := []) (ci := 2) (q0 := 1) hE (kX2_hasBoy l G st ap ak ao M B b hB) (cwV 1 hts gX4_odds_X2_hasBoy rfl rfl rfl (by decide +kernel) ⟨Nat.le_of_ble_eq_true rfl, Nat.le_of_ble_eq_true rfl⟩) hP hK [1] rfl rfl rfl rfl hl.1 rfl (Nat.le_of_ble_eq_true rfl) dX4_odds_5 ⟨Nat.zero_le _, Nat.zero_le _⟩ ?_
  refine W.eq (g2 := F0 m 8 ls [.int (bI (vp_in b B))]) rfl ?_
  refine bz_eq (tgt := 22) hx hb dX4_odds_8 (by decide) (fun c1 => ?_) (fun c1 => ?_)
  ·
    refine lv_ldc2 (v := (-9223372036854775808)) hx hb hown (hts (.constantLong RX4 163 (-9223372036854775808)) (List.mem_of_getElem? (i := 2) rfl)) dX4_odds_22 ?_
    exact hret _ _ _ _ _ (by first | with_reducible rfl | (simp only [s_odds, odv, odG, iF_f c1]; done) | contradiction) (by first | with_reducible exact hP | (simp only [s_odds, odv, odG, iF_f c1]; with_reducible exact hP) | contradiction | (simp only [s_odds, odv, odG, iF_f c1]; exact hP) | exact hP) hS dX4_odds_25
  ·
    obtain ⟨jb, hjb, rfl⟩ := vp_in_of c1 (by omega)
    refine lv_aload_n hx hb dX4_odds_11 rfl (lv_at hl 0 rfl) ?_
    refine g_get (v := .ref st) hx hb hts ixX4_odds_X4 hown hK hP 0 rfl rfl 0 (by decide) lkX4_odds_12 rfl dX4_odds_12 ?_
    refine lv_iload_n hx hb dX4_odds_15 rfl (lv_at hl 2 rfl) ?_
    refine rdV (As := [.int m0]) (rest := []) (ci := 2) (q0 := 1) hE (kX2_hasMaster l G st ap ak ao M B m0 hM) (cwV 1 hts gX4_odds_X2_hasMaster rfl rfl rfl (by decide +kernel) ⟨Nat.le_of_ble_eq_true rfl, Nat.le_of_ble_eq_true rfl⟩) hP hK [1] rfl rfl rfl rfl hl.1 rfl (Nat.le_of_ble_eq_true rfl) dX4_odds_16 ⟨Nat.zero_le _, Nat.zero_le _⟩ ?_
    refine W.eq (g2 := F0 m 19 ls [.int (bI (vp_in m0 M))]) rfl ?_
    refine bz_ne (tgt := 26) hx hb dX4_odds_19 (by decide) (fun c2 => ?_) (fun c2 => ?_)
    ·
      obtain ⟨jm0, hjm0, rfl⟩ := vp_in_of c2 (by omega)
      refine lv_iload_n hx hb dX4_odds_26 rfl (lv_at hl 3 rfl) ?_
      refine lv_bipush (v := nI 20) hx hb dX4_odds_27 (by decide) ?_
      refine rdS (As := [.int n, .int (nI 20)]) (rest := []) hE (kX4_isWithin l G n 20 (by first | omega | assumption | exact hU _ (by omega) | exact hz _ (by omega) | exact hK3 _ (by omega))) (va_cwS 2 hts gX4_odds_X4_isWithin rfl rfl rfl (by decide +kernel) ⟨Nat.le_of_ble_eq_true rfl, Nat.le_of_ble_eq_true rfl⟩) hP hK [] rfl rfl hl.1 rfl (Nat.le_of_ble_eq_true rfl) dX4_odds_29 ⟨Nat.zero_le _, Nat.zero_le _⟩ ?_
      refine W.eq (g2 := F0 m 32 ls [.int (bI (vp_in n (20 + 1)))]) rfl ?_
      refine bz_eq (tgt := 44) hx hb dX4_odds_32 (by decide) (fun c3 => ?_) (fun c3 => ?_)
      ·
        refine lv_ldc2 (v := (-9223372036854775808)) hx hb hown (hts (.constantLong RX4 163 (-9223372036854775808)) (List.mem_of_getElem? (i := 2) rfl)) dX4_odds_44 ?_
        exact hret _ _ _ _ _ (by first | with_reducible rfl | (simp only [s_odds, odv, odG, iF_t c1, iF_t c2, iF_f c3, tn_nI (show jb < 2 ^ 31 by omega), tn_nI (show jm0 < 2 ^ 31 by omega)]; done) | contradiction) (by first | with_reducible exact hP | (simp only [s_odds, odv, odG, iF_t c1, iF_t c2, iF_f c3, tn_nI (show jb < 2 ^ 31 by omega), tn_nI (show jm0 < 2 ^ 31 by omega)]; with_reducible exact hP) | contradiction | (simp only [s_odds, odv, odG, iF_t c1, iF_t c2, iF_f c3, tn_nI (show jb < 2 ^ 31 by omega), tn_nI (show jm0 < 2 ^ 31 by omega)]; exact hP) | exact hP) hS dX4_odds_47
      ·
        obtain ⟨jn, hjn, rfl⟩ := vp_in_of c3 (by omega)
        refine lv_iload hx hb dX4_odds_35 (lv_at hl 4 rfl) ?_
        refine lv_iconst (v := nI 1) hx hb dX4_odds_37 (by decide) ?_
        refine rdS (As := [.int w, .int (nI 1)]) (rest := []) hE (kX4_isWithin l G w 1 (by first | omega | assumption | exact hU _ (by omega) | exact hz _ (by omega) | exact hK3 _ (by omega))) (va_cwS 2 hts gX4_odds_X4_isWithin rfl rfl rfl (by decide +kernel) ⟨Nat.le_of_ble_eq_true rfl, Nat.le_of_ble_eq_true rfl⟩) hP hK [] rfl rfl hl.1 rfl (Nat.le_of_ble_eq_true rfl) dX4_odds_38 ⟨Nat.zero_le _, Nat.zero_le _⟩ ?_
        refine W.eq (g2 := F0 m 41 ls [.int (bI (vp_in w (1 + 1)))]) rfl ?_
        refine bz_ne (tgt := 48) hx hb dX4_odds_41 (by decide) (fun c4 => ?_) (fun c4 => ?_)
        ·
          have hpos : 0 < 2 ^ M := Nat.pow_pos (by decide)
          refine lv_iconst (v := nI 1) hx hb dX4_odds_48 (by decide) ?_
          refine lv_aload_n hx hb dX4_odds_49 rfl (lv_at hl 0 rfl) ?_
          refine g_get (v := .ref st) hx hb hts ixX4_odds_X4 hown hK hP 0 rfl rfl 0 (by decide) lkX4_odds_12 rfl dX4_odds_50 ?_
          refine g_getN (v := .int (nI M)) hx hb hts ixX4_odds_X2 hown hK hP 1 rfl rfl 3 (by decide) nkX4_119 rfl dX4_odds_53 ?_
          refine lv_ishl hx hb dX4_odds_56 ?_
          refine lv_tope (show (nI 1) <<< (nI M &&& 31) = nI (2 ^ M) from shl_pow M hM) ?_
          refine lv_istore (lv' := [(5, .int (nI (2 ^ M))), (0, .ref x), (1, .int (nI jb)), (2, .int (nI jm0)), (3, .int (nI jn)), (4, .int w)]) hx hb dX4_odds_57 hl (by decide) rfl (fun ls hl => ?_)
          have hpw := pow_le M hM
          refine lv_iconst (v := nI 0) hx hb dX4_odds_59 (by decide) ?_
          refine lv_istore (lv' := [(6, .int (nI 0)), (5, .int (nI (2 ^ M))), (0, .ref x), (1, .int (nI jb)), (2, .int (nI jm0)), (3, .int (nI jn)), (4, .int w)]) hx hb dX4_odds_60 hl (by decide) rfl (fun ls hl => ?_)
          refine lv_iconst (v := nI 0) hx hb dX4_odds_62 (by decide) ?_
          refine lv_istore (lv' := [(7, .int (nI 0)), (6, .int (nI 0)), (5, .int (nI (2 ^ M))), (0, .ref x), (1, .int (nI jb)), (2, .int (nI jm0)), (3, .int (nI jn)), (4, .int w)]) hx hb dX4_odds_63 hl (by decide) rfl (fun ls hl => ?_)
          have loop1 : ∀ (d k : Nat) (H : Heap) (locs : List Loc) (ls : Array Slot), 2 ^ M < k + d → k ≤ 2 ^ M → va_P G.1 vwCl [(x, .inr (4, [.ref st, .ref tr, .ref ra, .int (nI R), .ref sa, .int tc, .int fl])), (st, .inr (2, [.ref ap, .ref ak, .ref ao, .int (nI M), .int (nI B)])), (ap, aI G 25 P), (ak, aI G 4 K), (ao, aI G 4 U), (tr, .inr (2, [.ref tp, .ref tk, .ref to, .int (stp tM (nI M) k), .int (stp tB (nI B) k)])), (tp, aI G 25 (opF P P2 M k)), (tk, aI G 4 (stp K2 K k)), (to, aI G 4 (stp U2 U k))] H → va_D A [(x, .inr (4, [.ref st, .ref tr, .ref ra, .int (nI R), .ref sa, .int tc, .int fl])), (st, .inr (2, [.ref ap, .ref ak, .ref ao, .int (nI M), .int (nI B)])), (ap, aI G 25 P), (ak, aI G 4 K), (ao, aI G 4 U), (tr, .inr (2, [.ref tp, .ref tk, .ref to, .int (stp tM (nI M) k), .int (stp tB (nI B) k)])), (tp, aI G 25 (opF P P2 M k)), (tk, aI G 4 (stp K2 K k)), (to, aI G 4 (stp U2 U k))] → va_S A s.heap H locs → lv_has ls 8 [(7, .int (nI k)), (6, .int (nI (oc P M (tn (U jb)) jn jm0 k))), (5, .int (nI (2 ^ M))), (0, .ref x), (1, .int (nI jb)), (2, .int (nI jm0)), (3, .int (nI jn)), (4, .int w)] → W p l e ({ frames := 4, cells := 0, slots := 0, locals := 92 } : Room) s m ([.ref x, .int (nI jb), .int (nI jm0), .int (nI jn), .int w] : List Value).toArray below meth c H locs 0 0 Q (F0 m 65 ls []) := by
            intro d
            induction d with
            | zero =>
              intro k H locs ls h1 h2
              omega
            | succ d ih1 =>
              intro k H locs ls hdk hbk hP hD hS hl
              refine lv_iload hx hb dX4_odds_65 (lv_at hl 0 rfl) ?_
              refine lv_iload hx hb dX4_odds_67 (lv_at hl 2 rfl) ?_
              refine ic_ge (tgt := 100) hx hb (by omega) (by omega) dX4_odds_69 (by decide) (fun c5 => ?_) (fun c5 => ?_)
              ·
                obtain rfl : 2 ^ M = k := by omega
                obtain ⟨m1, em1⟩ : ∃ z, 2 ^ M = z + 1 := ⟨2 ^ M - 1, by omega⟩
                have est : ∀ {α : Type} (a b : α), stp a b (2 ^ M) = b := fun a b => by rw [em1]; rfl
                have hP : va_P G.1 vwCl [(x, .inr (4, [.ref st, .ref tr, .ref ra, .int (nI R), .ref sa, .int tc, .int fl])), (st, .inr (2, [.ref ap, .ref ak, .ref ao, .int (nI M), .int (nI B)])), (ap, aI G 25 P), (ak, aI G 4 K), (ao, aI G 4 U), (tr, .inr (2, [.ref tp, .ref tk, .ref to, .int (nI M), .int (nI B)])), (tp, aI G 25 (opF P P2 M (2 ^ M))), (tk, aI G 4 K), (to, aI G 4 U)] H := by simpa only [est] using hP
                have hD : va_D A [(x, .inr (4, [.ref st, .ref tr, .ref ra, .int (nI R), .ref sa, .int tc, .int fl])), (st, .inr (2, [.ref ap, .ref ak, .ref ao, .int (nI M), .int (nI B)])), (ap, aI G 25 P), (ak, aI G 4 K), (ao, aI G 4 U), (tr, .inr (2, [.ref tp, .ref tk, .ref to, .int (nI M), .int (nI B)])), (tp, aI G 25 (opF P P2 M (2 ^ M))), (tk, aI G 4 K), (to, aI G 4 U)] := by simpa only [est] using hD
                have loop2 : ∀ (d j : Nat) (ls : Array Slot), M < j + d → j ≤ M → (fi (fun j => ¬ (1 < 2 ^ (M - j) ∧ (oc P M (tn (U jb)) jn jm0 (2 ^ M)) / 2 ^ j % 2 = 0)) j = none) → lv_has ls 8 [(6, .int (nI ((oc P M (tn (U jb)) jn jm0 (2 ^ M)) / 2 ^ j))), (5, .int (nI (2 ^ (M - j)))), (0, .ref x), (1, .int (nI jb)), (2, .int (nI jm0)), (3, .int (nI jn)), (4, .int w)] → W p l e ({ frames := 4, cells := 0, slots := 0, locals := 92 } : Room) s m ([.ref x, .int (nI jb), .int (nI jm0), .int (nI jn), .int w] : List Value).toArray below meth c H locs 0 0 Q (F0 m 100 ls []) := by
                  intro d
                  induction d with
                  | zero =>
                    intro j ls h1 h2
                    omega
                  | succ d ih2 =>
                    intro j ls hdj hbj hv hl
                    have hcj := Nat.div_le_self (oc P M (tn (U jb)) jn jm0 (2 ^ M)) (2 ^ j)
                    have hpj : 2 ^ (M - j) ≤ 2 ^ M := Nat.pow_le_pow_right (by decide) (Nat.sub_le M j)
                    have hol := oc_le (P := P) (M := M) (u := tn (U jb)) (n := jn) (g := jm0) (2 ^ M)
                    refine lv_iload hx hb dX4_odds_100 (lv_at hl 1 rfl) ?_
                    refine lv_iconst (v := nI 1) hx hb dX4_odds_102 (by decide) ?_
                    refine ic_le (tgt := 128) hx hb (by omega) (by omega) dX4_odds_103 (by decide) (fun c6 => ?_) (fun c6 => ?_)
                    ·
                      refine lv_iload hx hb dX4_odds_128 (lv_at hl 6 rfl) ?_
                      refine lv_if_ne (tgt := 139) hx hb dX4_odds_130 (by decide) (fun c7 => ?_) (fun c7 => ?_)
                      ·
                        refine lv_iload hx hb dX4_odds_139 (lv_at hl 1 rfl) ?_
                        refine lv_i2l (v := lN (2 ^ (M - j))) hx hb dX4_odds_141 (nI_l (by omega)) ?_
                        exact hret _ _ _ _ _ (by simp only [s_odds, odv, odG, iF_t c1, iF_t c2, iF_t c3, iF_t c4, iF_f (Nat.not_lt.mpr c5), iF_t c6, iF_f c7, tn_nI (show jb < 2 ^ 31 by omega), tn_nI (show jm0 < 2 ^ 31 by omega), tn_nI (show jn < 2 ^ 31 by omega)]; exact congrArg lN (hv_eq M hM _ (oc_le _) j (by omega) (fun h => absurd h.1 (Nat.not_lt.mpr c6)) (fun i hi => Classical.not_not.mp (fi_none.mp hv i hi))).2) (by first | with_reducible exact hP | (simp only [s_odds, odv, odG, iF_t c1, iF_t c2, iF_t c3, iF_t c4, iF_f (Nat.not_lt.mpr c5), iF_t c6, iF_f c7, tn_nI (show jb < 2 ^ 31 by omega), tn_nI (show jm0 < 2 ^ 31 by omega), tn_nI (show jn < 2 ^ 31 by omega)]; with_reducible exact hP) | contradiction | (simp only [s_odds, odv, odG, iF_t c1, iF_t c2, iF_t c3, iF_t c4, iF_f (Nat.not_lt.mpr c5), iF_t c6, iF_f c7, tn_nI (show jb < 2 ^ 31 by omega), tn_nI (show jm0 < 2 ^ 31 by omega), tn_nI (show jn < 2 ^ 31 by omega)]; exact hP) | exact hP) hS dX4_odds_142
                      ·
                        refine lv_iload hx hb dX4_odds_133 (lv_at hl 0 rfl) ?_
                        refine lv_i2l (v := lN ((oc P M (tn (U jb)) jn jm0 (2 ^ M)) / 2 ^ j)) hx hb dX4_odds_135 (nI_l (by omega)) ?_
                        refine lv_goto (tgt := 142) hx hb dX4_odds_136 (by decide) ?_
                        exact hret _ _ _ _ _ (by simp only [s_odds, odv, odG, iF_t c1, iF_t c2, iF_t c3, iF_t c4, iF_f (Nat.not_lt.mpr c5), iF_t c6, iF_t c7, tn_nI (show jb < 2 ^ 31 by omega), tn_nI (show jm0 < 2 ^ 31 by omega), tn_nI (show jn < 2 ^ 31 by omega)]; exact congrArg lN (hv_eq M hM _ (oc_le _) j (by omega) (fun h => absurd h.1 (Nat.not_lt.mpr c6)) (fun i hi => Classical.not_not.mp (fi_none.mp hv i hi))).1) (by first | with_reducible exact hP | (simp only [s_odds, odv, odG, iF_t c1, iF_t c2, iF_t c3, iF_t c4, iF_f (Nat.not_lt.mpr c5), iF_t c6, iF_t c7, tn_nI (show jb < 2 ^ 31 by omega), tn_nI (show jm0 < 2 ^ 31 by omega), tn_nI (show jn < 2 ^ 31 by omega)]; with_reducible exact hP) | contradiction | (simp only [s_odds, odv, odG, iF_t c1, iF_t c2, iF_t c3, iF_t c4, iF_f (Nat.not_lt.mpr c5), iF_t c6, iF_t c7, tn_nI (show jb < 2 ^ 31 by omega), tn_nI (show jm0 < 2 ^ 31 by omega), tn_nI (show jn < 2 ^ 31 by omega)]; exact hP) | exact hP) hS dX4_odds_142
                    ·
                      have hjM : j < M := Nat.lt_of_le_of_ne hbj (fun q => by rw [q, Nat.sub_self] at c6; exact absurd c6 (by decide))
                      refine lv_iload hx hb dX4_odds_106 (lv_at hl 0 rfl) ?_
                      refine lv_iconst (v := nI 2) hx hb dX4_odds_108 (by decide) ?_
                      refine lv_irem hx hb dX4_odds_109 (by decide) ?_
                      refine lv_tope (show (nI ((oc P M (tn (U jb)) jn jm0 (2 ^ M)) / 2 ^ j)) - (nI ((oc P M (tn (U jb)) jn jm0 (2 ^ M)) / 2 ^ j)) / (nI 2) * (nI 2) = nI (((oc P M (tn (U jb)) jn jm0 (2 ^ M)) / 2 ^ j) % 2) from pk_rem (by omega) (by omega) (by omega)) ?_
                      refine iz_ne (tgt := 128) hx hb (by omega) dX4_odds_110 (by decide) (fun c8 => ?_) (fun c8 => ?_)
                      ·
                        refine lv_iload hx hb dX4_odds_128 (lv_at hl 6 rfl) ?_
                        refine lv_if_ne (tgt := 139) hx hb dX4_odds_130 (by decide) (fun c9 => ?_) (fun c9 => ?_)
                        ·
                          refine lv_iload hx hb dX4_odds_139 (lv_at hl 1 rfl) ?_
                          refine lv_i2l (v := lN (2 ^ (M - j))) hx hb dX4_odds_141 (nI_l (by omega)) ?_
                          exact hret _ _ _ _ _ (by simp only [s_odds, odv, odG, iF_t c1, iF_t c2, iF_t c3, iF_t c4, iF_f (Nat.not_lt.mpr c5), iF_f (Nat.not_le.mpr c6), iF_f c9, tn_nI (show jb < 2 ^ 31 by omega), tn_nI (show jm0 < 2 ^ 31 by omega), tn_nI (show jn < 2 ^ 31 by omega)]; exact congrArg lN (hv_eq M hM _ (oc_le _) j (by omega) (fun h => c8 h.2) (fun i hi => Classical.not_not.mp (fi_none.mp hv i hi))).2) (by first | with_reducible exact hP | (simp only [s_odds, odv, odG, iF_t c1, iF_t c2, iF_t c3, iF_t c4, iF_f (Nat.not_lt.mpr c5), iF_f (Nat.not_le.mpr c6), iF_f c9, tn_nI (show jb < 2 ^ 31 by omega), tn_nI (show jm0 < 2 ^ 31 by omega), tn_nI (show jn < 2 ^ 31 by omega)]; with_reducible exact hP) | contradiction | (simp only [s_odds, odv, odG, iF_t c1, iF_t c2, iF_t c3, iF_t c4, iF_f (Nat.not_lt.mpr c5), iF_f (Nat.not_le.mpr c6), iF_f c9, tn_nI (show jb < 2 ^ 31 by omega), tn_nI (show jm0 < 2 ^ 31 by omega), tn_nI (show jn < 2 ^ 31 by omega)]; exact hP) | exact hP) hS dX4_odds_142
                        ·
                          refine lv_iload hx hb dX4_odds_133 (lv_at hl 0 rfl) ?_
                          refine lv_i2l (v := lN ((oc P M (tn (U jb)) jn jm0 (2 ^ M)) / 2 ^ j)) hx hb dX4_odds_135 (nI_l (by omega)) ?_
                          refine lv_goto (tgt := 142) hx hb dX4_odds_136 (by decide) ?_
                          exact hret _ _ _ _ _ (by simp only [s_odds, odv, odG, iF_t c1, iF_t c2, iF_t c3, iF_t c4, iF_f (Nat.not_lt.mpr c5), iF_f (Nat.not_le.mpr c6), iF_t c9, tn_nI (show jb < 2 ^ 31 by omega), tn_nI (show jm0 < 2 ^ 31 by omega), tn_nI (show jn < 2 ^ 31 by omega)]; exact congrArg lN (hv_eq M hM _ (oc_le _) j (by omega) (fun h => c8 h.2) (fun i hi => Classical.not_not.mp (fi_none.mp hv i hi))).1) (by first | with_reducible exact hP | (simp only [s_odds, odv, odG, iF_t c1, iF_t c2, iF_t c3, iF_t c4, iF_f (Nat.not_lt.mpr c5), iF_f (Nat.not_le.mpr c6), iF_t c9, tn_nI (show jb < 2 ^ 31 by omega), tn_nI (show jm0 < 2 ^ 31 by omega), tn_nI (show jn < 2 ^ 31 by omega)]; with_reducible exact hP) | contradiction | (simp only [s_odds, odv, odG, iF_t c1, iF_t c2, iF_t c3, iF_t c4, iF_f (Nat.not_lt.mpr c5), iF_f (Nat.not_le.mpr c6), iF_t c9, tn_nI (show jb < 2 ^ 31 by omega), tn_nI (show jm0 < 2 ^ 31 by omega), tn_nI (show jn < 2 ^ 31 by omega)]; exact hP) | exact hP) hS dX4_odds_142
                      ·
                        refine lv_iload hx hb dX4_odds_113 (lv_at hl 0 rfl) ?_
                        refine lv_iconst (v := nI 2) hx hb dX4_odds_115 (by decide) ?_
                        refine lv_idiv hx hb dX4_odds_116 (by decide) ?_
                        refine lv_tope (show (nI ((oc P M (tn (U jb)) jn jm0 (2 ^ M)) / 2 ^ j)) / (nI 2) = nI (((oc P M (tn (U jb)) jn jm0 (2 ^ M)) / 2 ^ j) / 2) from pk_div (by omega) (by omega) (by omega)) ?_
                        refine lv_istore (lv' := [(6, .int (nI (((oc P M (tn (U jb)) jn jm0 (2 ^ M)) / 2 ^ j) / 2))), (5, .int (nI (2 ^ (M - j)))), (0, .ref x), (1, .int (nI jb)), (2, .int (nI jm0)), (3, .int (nI jn)), (4, .int w)]) hx hb dX4_odds_117 hl (by decide) rfl (fun ls hl => ?_)
                        refine lv_iload hx hb dX4_odds_119 (lv_at hl 1 rfl) ?_
                        refine lv_iconst (v := nI 2) hx hb dX4_odds_121 (by decide) ?_
                        refine lv_idiv hx hb dX4_odds_122 (by decide) ?_
                        refine lv_tope (show (nI (2 ^ (M - j))) / (nI 2) = nI ((2 ^ (M - j)) / 2) from pk_div (by omega) (by omega) (by omega)) ?_
                        refine lv_istore (lv' := [(5, .int (nI ((2 ^ (M - j)) / 2))), (6, .int (nI (((oc P M (tn (U jb)) jn jm0 (2 ^ M)) / 2 ^ j) / 2))), (0, .ref x), (1, .int (nI jb)), (2, .int (nI jm0)), (3, .int (nI jn)), (4, .int w)]) hx hb dX4_odds_123 hl (by decide) rfl (fun ls hl => ?_)
                        refine lv_goto (tgt := 100) hx hb dX4_odds_125 (by decide) ?_
                        have hl10 : lv_has ls 8 [(6, .int (nI ((oc P M (tn (U jb)) jn jm0 (2 ^ M)) / 2 ^ (j + 1)))), (5, .int (nI (2 ^ (M - (j + 1))))), (0, .ref x), (1, .int (nI jb)), (2, .int (nI jm0)), (3, .int (nI jn)), (4, .int w)] := by
                          rw [show (nI ((oc P M (tn (U jb)) jn jm0 (2 ^ M)) / 2 ^ (j + 1))) = (nI (((oc P M (tn (U jb)) jn jm0 (2 ^ M)) / 2 ^ j) / 2)) from by rw [div_st]]
                          rw [show (nI (2 ^ (M - (j + 1)))) = (nI ((2 ^ (M - j)) / 2)) from by rw [pow_st (by omega)]]
                          exact (lv_sub hl [1, 0, 2, 3, 4, 5, 6] rfl)
                        exact ih2 (j + 1) ls (by omega) (by omega) (fi_miss hv (fun h => h ⟨c6, c8⟩)) hl10
                have hl11 : lv_has ls 8 [(6, .int (nI ((oc P M (tn (U jb)) jn jm0 (2 ^ M)) / 2 ^ 0))), (5, .int (nI (2 ^ (M - 0)))), (0, .ref x), (1, .int (nI jb)), (2, .int (nI jm0)), (3, .int (nI jn)), (4, .int w)] := by
                  rw [show (nI ((oc P M (tn (U jb)) jn jm0 (2 ^ M)) / 2 ^ 0)) = (nI (oc P M (tn (U jb)) jn jm0 (2 ^ M))) from by rw [Nat.pow_zero, Nat.div_one]]
                  rw [show (nI (2 ^ (M - 0))) = (nI (2 ^ M)) from by rw [Nat.sub_zero]]
                  exact (lv_sub hl [1, 2, 3, 4, 5, 6, 7] rfl)
                exact loop2 (M + 1) 0 ls (by omega) (by omega) rfl hl11
              ·
                refine lv_aload_n hx hb dX4_odds_72 rfl (lv_at hl 3 rfl) ?_
                refine lv_iload hx hb dX4_odds_73 (lv_at hl 0 rfl) ?_
                refine wtV (As := [.int (nI k)]) (rest := []) (ci := 4) (q0 := 0) hE (kX4_tryPaidBy l G x st tr ra sa R tc fl ap ak ao M B P K U tp tk to (stp tM (nI M) k) (stp tB (nI B) k) (opF P P2 M k) (stp K2 K k) (stp U2 U k) k hM hz (by first | omega | assumption | exact hU _ (by omega) | exact hz _ (by omega) | exact hK3 _ (by omega))) (cwV 1 hts gX4_odds_X4_tryPaidBy rfl rfl rfl (by decide +kernel) ⟨Nat.le_of_ble_eq_true rfl, Nat.le_of_ble_eq_true rfl⟩) hP hK hD hS [0, 1, 2, 3, 4, 5, 6, 7, 8] (by decide) rfl (Eq.trans (b := [x, st, ap, ak, ao, tr, tp, tk, to]) rfl rfl) (W1 := [(x, .inr (4, [.ref st, .ref tr, .ref ra, .int (nI R), .ref sa, .int tc, .int fl])), (st, .inr (2, [.ref ap, .ref ak, .ref ao, .int (nI M), .int (nI B)])), (ap, aI G 25 P), (ak, aI G 4 K), (ao, aI G 4 U), (tr, .inr (2, [.ref tp, .ref tk, .ref to, .int (nI M), .int (nI B)])), (tp, aI G 25 (pdp P M k M)), (tk, aI G 4 K), (to, aI G 4 U)]) rfl rfl rfl rfl hl.1 rfl (Nat.le_of_ble_eq_true rfl) dX4_odds_75 ⟨Nat.zero_le _, Nat.zero_le _⟩ (fun H locs hP hD hS => ?_)
                refine W.eq (g2 := F0 m 78 ls []) rfl ?_
                refine lv_aload_n hx hb dX4_odds_78 rfl (lv_at hl 3 rfl) ?_
                refine g_get (v := .ref tr) hx hb hts ixX4_odds_X4 hown hK hP 0 rfl rfl 1 (by decide) lkX4_odds_18 rfl dX4_odds_79 ?_
                refine lv_iload_n hx hb dX4_odds_82 rfl (lv_at hl 4 rfl) ?_
                refine lv_iload_n hx hb dX4_odds_83 rfl (lv_at hl 6 rfl) ?_
                refine rdV (As := [.int (nI jb), .int (nI jn)]) (rest := []) (ci := 2) (q0 := 5) hE (kX2_masterBehind l G tr tp tk to M B (pdp P M k M) U jb jn hM (by first | omega | assumption | exact hU _ (by omega) | exact hz _ (by omega) | exact hK3 _ (by omega)) (by first | omega | assumption | exact hU _ (by omega) | exact hz _ (by omega) | exact hK3 _ (by omega)) (by first | omega | assumption | exact hU _ (by omega) | exact hz _ (by omega) | exact hK3 _ (by omega)) (hz_pdp hz M)) (cwV 2 hts gX4_odds_X2_masterBehind rfl rfl rfl (by decide +kernel) ⟨Nat.le_of_ble_eq_true rfl, Nat.le_of_ble_eq_true rfl⟩) hP hK [5, 6, 8] rfl rfl rfl rfl hl.1 rfl (Nat.le_of_ble_eq_true rfl) dX4_odds_84 ⟨Nat.zero_le _, Nat.zero_le _⟩ ?_
                refine W.eq (g2 := F0 m 87 ls [.int (nI (wh (pdp P M k M) M (tn (U jb)) jn))]) rfl ?_
                refine lv_iload_n hx hb dX4_odds_87 rfl (lv_at hl 5 rfl) ?_
                have hwl := wh_lt (P := pdp P M k M) (tn_lt (hU jb hjb) (by omega)) jn
                have hol := oc_le (P := P) (M := M) (u := tn (U jb)) (n := jn) (g := jm0) k
                refine ic_ne (tgt := 94) hx hb (by omega) (by omega) dX4_odds_88 (by decide) (fun c12 => ?_) (fun c12 => ?_)
                ·
                  refine lv_iinc (v := nI (k + 1)) (lv' := [(7, .int (nI (k + 1))), (6, .int (nI (oc P M (tn (U jb)) jn jm0 k))), (5, .int (nI (2 ^ M))), (0, .ref x), (1, .int (nI jb)), (2, .int (nI jm0)), (3, .int (nI jn)), (4, .int w)]) hx hb dX4_odds_94 hl (k := 0) rfl (show nI k + Int32.ofInt 1 = nI (k + 1) from nI_add _ 1) (by decide) rfl (fun ls hl => ?_)
                  refine lv_goto (tgt := 65) hx hb dX4_odds_97 (by decide) ?_
                  have hl13 : lv_has ls 8 [(7, .int (nI (k + 1))), (6, .int (nI (oc P M (tn (U jb)) jn jm0 (k + 1)))), (5, .int (nI (2 ^ M))), (0, .ref x), (1, .int (nI jb)), (2, .int (nI jm0)), (3, .int (nI jn)), (4, .int w)] := by
                    rw [show (nI (oc P M (tn (U jb)) jn jm0 (k + 1))) = (nI (oc P M (tn (U jb)) jn jm0 k)) from by first | rfl | simp only [oc, iF_t c1, iF_t c2, iF_t c3, iF_t c4, iF_t c5, iF_f c12, tn_nI (show jb < 2 ^ 31 by omega), tn_nI (show jm0 < 2 ^ 31 by omega), tn_nI (show jn < 2 ^ 31 by omega)]]
                    exact (lv_sub hl [0, 1, 2, 3, 4, 5, 6, 7] rfl)
                  have hP14 : va_P G.1 vwCl [(x, .inr (4, [.ref st, .ref tr, .ref ra, .int (nI R), .ref sa, .int tc, .int fl])), (st, .inr (2, [.ref ap, .ref ak, .ref ao, .int (nI M), .int (nI B)])), (ap, aI G 25 P), (ak, aI G 4 K), (ao, aI G 4 U), (tr, .inr (2, [.ref tp, .ref tk, .ref to, .int (stp tM (nI M) (k + 1)), .int (stp tB (nI B) (k + 1))])), (tp, aI G 25 (opF P P2 M (k + 1))), (tk, aI G 4 (stp K2 K (k + 1))), (to, aI G 4 (stp U2 U (k + 1)))] H := by
                    rw [show (stp tM (nI M) (k + 1)) = (nI M) from by first | rfl | simp only [oc, iF_t c1, iF_t c2, iF_t c3, iF_t c4, iF_t c5, iF_f c12, tn_nI (show jb < 2 ^ 31 by omega), tn_nI (show jm0 < 2 ^ 31 by omega), tn_nI (show jn < 2 ^ 31 by omega)]]
                    rw [show (stp tB (nI B) (k + 1)) = (nI B) from by first | rfl | simp only [oc, iF_t c1, iF_t c2, iF_t c3, iF_t c4, iF_t c5, iF_f c12, tn_nI (show jb < 2 ^ 31 by omega), tn_nI (show jm0 < 2 ^ 31 by omega), tn_nI (show jn < 2 ^ 31 by omega)]]
                    rw [show (opF P P2 M (k + 1)) = (pdp P M k M) from by first | rfl | simp only [oc, iF_t c1, iF_t c2, iF_t c3, iF_t c4, iF_t c5, iF_f c12, tn_nI (show jb < 2 ^ 31 by omega), tn_nI (show jm0 < 2 ^ 31 by omega), tn_nI (show jn < 2 ^ 31 by omega)]]
                    rw [show (stp K2 K (k + 1)) = (K) from by first | rfl | simp only [oc, iF_t c1, iF_t c2, iF_t c3, iF_t c4, iF_t c5, iF_f c12, tn_nI (show jb < 2 ^ 31 by omega), tn_nI (show jm0 < 2 ^ 31 by omega), tn_nI (show jn < 2 ^ 31 by omega)]]
                    rw [show (stp U2 U (k + 1)) = (U) from by first | rfl | simp only [oc, iF_t c1, iF_t c2, iF_t c3, iF_t c4, iF_t c5, iF_f c12, tn_nI (show jb < 2 ^ 31 by omega), tn_nI (show jm0 < 2 ^ 31 by omega), tn_nI (show jn < 2 ^ 31 by omega)]]
                    exact hP
                  have hD14 : va_D A [(x, .inr (4, [.ref st, .ref tr, .ref ra, .int (nI R), .ref sa, .int tc, .int fl])), (st, .inr (2, [.ref ap, .ref ak, .ref ao, .int (nI M), .int (nI B)])), (ap, aI G 25 P), (ak, aI G 4 K), (ao, aI G 4 U), (tr, .inr (2, [.ref tp, .ref tk, .ref to, .int (stp tM (nI M) (k + 1)), .int (stp tB (nI B) (k + 1))])), (tp, aI G 25 (opF P P2 M (k + 1))), (tk, aI G 4 (stp K2 K (k + 1))), (to, aI G 4 (stp U2 U (k + 1)))] := by
                    rw [show (stp tM (nI M) (k + 1)) = (nI M) from by first | rfl | simp only [oc, iF_t c1, iF_t c2, iF_t c3, iF_t c4, iF_t c5, iF_f c12, tn_nI (show jb < 2 ^ 31 by omega), tn_nI (show jm0 < 2 ^ 31 by omega), tn_nI (show jn < 2 ^ 31 by omega)]]
                    rw [show (stp tB (nI B) (k + 1)) = (nI B) from by first | rfl | simp only [oc, iF_t c1, iF_t c2, iF_t c3, iF_t c4, iF_t c5, iF_f c12, tn_nI (show jb < 2 ^ 31 by omega), tn_nI (show jm0 < 2 ^ 31 by omega), tn_nI (show jn < 2 ^ 31 by omega)]]
                    rw [show (opF P P2 M (k + 1)) = (pdp P M k M) from by first | rfl | simp only [oc, iF_t c1, iF_t c2, iF_t c3, iF_t c4, iF_t c5, iF_f c12, tn_nI (show jb < 2 ^ 31 by omega), tn_nI (show jm0 < 2 ^ 31 by omega), tn_nI (show jn < 2 ^ 31 by omega)]]
                    rw [show (stp K2 K (k + 1)) = (K) from by first | rfl | simp only [oc, iF_t c1, iF_t c2, iF_t c3, iF_t c4, iF_t c5, iF_f c12, tn_nI (show jb < 2 ^ 31 by omega), tn_nI (show jm0 < 2 ^ 31 by omega), tn_nI (show jn < 2 ^ 31 by omega)]]
                    rw [show (stp U2 U (k + 1)) = (U) from by first | rfl | simp only [oc, iF_t c1, iF_t c2, iF_t c3, iF_t c4, iF_t c5, iF_f c12, tn_nI (show jb < 2 ^ 31 by omega), tn_nI (show jm0 < 2 ^ 31 by omega), tn_nI (show jn < 2 ^ 31 by omega)]]
                    exact hD
                  exact ih1 (k + 1) H locs ls (by omega) (by omega) hP14 hD14 hS hl13
                ·
                  refine lv_iinc (v := nI ((oc P M (tn (U jb)) jn jm0 k) + 1)) (lv' := [(6, .int (nI ((oc P M (tn (U jb)) jn jm0 k) + 1))), (7, .int (nI k)), (5, .int (nI (2 ^ M))), (0, .ref x), (1, .int (nI jb)), (2, .int (nI jm0)), (3, .int (nI jn)), (4, .int w)]) hx hb dX4_odds_91 hl (k := 1) rfl (show nI (oc P M (tn (U jb)) jn jm0 k) + Int32.ofInt 1 = nI ((oc P M (tn (U jb)) jn jm0 k) + 1) from nI_add _ 1) (by decide) rfl (fun ls hl => ?_)
                  refine lv_iinc (v := nI (k + 1)) (lv' := [(7, .int (nI (k + 1))), (6, .int (nI ((oc P M (tn (U jb)) jn jm0 k) + 1))), (5, .int (nI (2 ^ M))), (0, .ref x), (1, .int (nI jb)), (2, .int (nI jm0)), (3, .int (nI jn)), (4, .int w)]) hx hb dX4_odds_94 hl (k := 1) rfl (show nI k + Int32.ofInt 1 = nI (k + 1) from nI_add _ 1) (by decide) rfl (fun ls hl => ?_)
                  refine lv_goto (tgt := 65) hx hb dX4_odds_97 (by decide) ?_
                  have hl15 : lv_has ls 8 [(7, .int (nI (k + 1))), (6, .int (nI (oc P M (tn (U jb)) jn jm0 (k + 1)))), (5, .int (nI (2 ^ M))), (0, .ref x), (1, .int (nI jb)), (2, .int (nI jm0)), (3, .int (nI jn)), (4, .int w)] := by
                    rw [show (nI (oc P M (tn (U jb)) jn jm0 (k + 1))) = (nI ((oc P M (tn (U jb)) jn jm0 k) + 1)) from by first | rfl | simp only [oc, iF_t c1, iF_t c2, iF_t c3, iF_t c4, iF_t c5, iF_t c12, tn_nI (show jb < 2 ^ 31 by omega), tn_nI (show jm0 < 2 ^ 31 by omega), tn_nI (show jn < 2 ^ 31 by omega)]]
                    exact (lv_sub hl [0, 1, 2, 3, 4, 5, 6, 7] rfl)
                  have hP16 : va_P G.1 vwCl [(x, .inr (4, [.ref st, .ref tr, .ref ra, .int (nI R), .ref sa, .int tc, .int fl])), (st, .inr (2, [.ref ap, .ref ak, .ref ao, .int (nI M), .int (nI B)])), (ap, aI G 25 P), (ak, aI G 4 K), (ao, aI G 4 U), (tr, .inr (2, [.ref tp, .ref tk, .ref to, .int (stp tM (nI M) (k + 1)), .int (stp tB (nI B) (k + 1))])), (tp, aI G 25 (opF P P2 M (k + 1))), (tk, aI G 4 (stp K2 K (k + 1))), (to, aI G 4 (stp U2 U (k + 1)))] H := by
                    rw [show (stp tM (nI M) (k + 1)) = (nI M) from by first | rfl | simp only [oc, iF_t c1, iF_t c2, iF_t c3, iF_t c4, iF_t c5, iF_t c12, tn_nI (show jb < 2 ^ 31 by omega), tn_nI (show jm0 < 2 ^ 31 by omega), tn_nI (show jn < 2 ^ 31 by omega)]]
                    rw [show (stp tB (nI B) (k + 1)) = (nI B) from by first | rfl | simp only [oc, iF_t c1, iF_t c2, iF_t c3, iF_t c4, iF_t c5, iF_t c12, tn_nI (show jb < 2 ^ 31 by omega), tn_nI (show jm0 < 2 ^ 31 by omega), tn_nI (show jn < 2 ^ 31 by omega)]]
                    rw [show (opF P P2 M (k + 1)) = (pdp P M k M) from by first | rfl | simp only [oc, iF_t c1, iF_t c2, iF_t c3, iF_t c4, iF_t c5, iF_t c12, tn_nI (show jb < 2 ^ 31 by omega), tn_nI (show jm0 < 2 ^ 31 by omega), tn_nI (show jn < 2 ^ 31 by omega)]]
                    rw [show (stp K2 K (k + 1)) = (K) from by first | rfl | simp only [oc, iF_t c1, iF_t c2, iF_t c3, iF_t c4, iF_t c5, iF_t c12, tn_nI (show jb < 2 ^ 31 by omega), tn_nI (show jm0 < 2 ^ 31 by omega), tn_nI (show jn < 2 ^ 31 by omega)]]
                    rw [show (stp U2 U (k + 1)) = (U) from by first | rfl | simp only [oc, iF_t c1, iF_t c2, iF_t c3, iF_t c4, iF_t c5, iF_t c12, tn_nI (show jb < 2 ^ 31 by omega), tn_nI (show jm0 < 2 ^ 31 by omega), tn_nI (show jn < 2 ^ 31 by omega)]]
                    exact hP
                  have hD16 : va_D A [(x, .inr (4, [.ref st, .ref tr, .ref ra, .int (nI R), .ref sa, .int tc, .int fl])), (st, .inr (2, [.ref ap, .ref ak, .ref ao, .int (nI M), .int (nI B)])), (ap, aI G 25 P), (ak, aI G 4 K), (ao, aI G 4 U), (tr, .inr (2, [.ref tp, .ref tk, .ref to, .int (stp tM (nI M) (k + 1)), .int (stp tB (nI B) (k + 1))])), (tp, aI G 25 (opF P P2 M (k + 1))), (tk, aI G 4 (stp K2 K (k + 1))), (to, aI G 4 (stp U2 U (k + 1)))] := by
                    rw [show (stp tM (nI M) (k + 1)) = (nI M) from by first | rfl | simp only [oc, iF_t c1, iF_t c2, iF_t c3, iF_t c4, iF_t c5, iF_t c12, tn_nI (show jb < 2 ^ 31 by omega), tn_nI (show jm0 < 2 ^ 31 by omega), tn_nI (show jn < 2 ^ 31 by omega)]]
                    rw [show (stp tB (nI B) (k + 1)) = (nI B) from by first | rfl | simp only [oc, iF_t c1, iF_t c2, iF_t c3, iF_t c4, iF_t c5, iF_t c12, tn_nI (show jb < 2 ^ 31 by omega), tn_nI (show jm0 < 2 ^ 31 by omega), tn_nI (show jn < 2 ^ 31 by omega)]]
                    rw [show (opF P P2 M (k + 1)) = (pdp P M k M) from by first | rfl | simp only [oc, iF_t c1, iF_t c2, iF_t c3, iF_t c4, iF_t c5, iF_t c12, tn_nI (show jb < 2 ^ 31 by omega), tn_nI (show jm0 < 2 ^ 31 by omega), tn_nI (show jn < 2 ^ 31 by omega)]]
                    rw [show (stp K2 K (k + 1)) = (K) from by first | rfl | simp only [oc, iF_t c1, iF_t c2, iF_t c3, iF_t c4, iF_t c5, iF_t c12, tn_nI (show jb < 2 ^ 31 by omega), tn_nI (show jm0 < 2 ^ 31 by omega), tn_nI (show jn < 2 ^ 31 by omega)]]
                    rw [show (stp U2 U (k + 1)) = (U) from by first | rfl | simp only [oc, iF_t c1, iF_t c2, iF_t c3, iF_t c4, iF_t c5, iF_t c12, tn_nI (show jb < 2 ^ 31 by omega), tn_nI (show jm0 < 2 ^ 31 by omega), tn_nI (show jn < 2 ^ 31 by omega)]]
                    exact hD
                  exact ih1 (k + 1) H locs ls (by omega) (by omega) hP16 hD16 hS hl15
          have hl17 : lv_has ls 8 [(7, .int (nI 0)), (6, .int (nI (oc P M (tn (U jb)) jn jm0 0))), (5, .int (nI (2 ^ M))), (0, .ref x), (1, .int (nI jb)), (2, .int (nI jm0)), (3, .int (nI jn)), (4, .int w)] := by
            rw [show (nI (oc P M (tn (U jb)) jn jm0 0)) = (nI 0) from by first | rfl | simp only [oc, iF_t c1, iF_t c2, iF_t c3, iF_t c4, tn_nI (show jb < 2 ^ 31 by omega), tn_nI (show jm0 < 2 ^ 31 by omega), tn_nI (show jn < 2 ^ 31 by omega)]]
            exact (lv_sub hl [0, 1, 2, 3, 4, 5, 6, 7] rfl)
          have hP18 : va_P G.1 vwCl [(x, .inr (4, [.ref st, .ref tr, .ref ra, .int (nI R), .ref sa, .int tc, .int fl])), (st, .inr (2, [.ref ap, .ref ak, .ref ao, .int (nI M), .int (nI B)])), (ap, aI G 25 P), (ak, aI G 4 K), (ao, aI G 4 U), (tr, .inr (2, [.ref tp, .ref tk, .ref to, .int (stp tM (nI M) 0), .int (stp tB (nI B) 0)])), (tp, aI G 25 (opF P P2 M 0)), (tk, aI G 4 (stp K2 K 0)), (to, aI G 4 (stp U2 U 0))] s.heap := by
            rw [show (stp tM (nI M) 0) = (tM) from by first | rfl | simp only [oc, iF_t c1, iF_t c2, iF_t c3, iF_t c4, tn_nI (show jb < 2 ^ 31 by omega), tn_nI (show jm0 < 2 ^ 31 by omega), tn_nI (show jn < 2 ^ 31 by omega)]]
            rw [show (stp tB (nI B) 0) = (tB) from by first | rfl | simp only [oc, iF_t c1, iF_t c2, iF_t c3, iF_t c4, tn_nI (show jb < 2 ^ 31 by omega), tn_nI (show jm0 < 2 ^ 31 by omega), tn_nI (show jn < 2 ^ 31 by omega)]]
            rw [show (opF P P2 M 0) = (P2) from by first | rfl | simp only [oc, iF_t c1, iF_t c2, iF_t c3, iF_t c4, tn_nI (show jb < 2 ^ 31 by omega), tn_nI (show jm0 < 2 ^ 31 by omega), tn_nI (show jn < 2 ^ 31 by omega)]]
            rw [show (stp K2 K 0) = (K2) from by first | rfl | simp only [oc, iF_t c1, iF_t c2, iF_t c3, iF_t c4, tn_nI (show jb < 2 ^ 31 by omega), tn_nI (show jm0 < 2 ^ 31 by omega), tn_nI (show jn < 2 ^ 31 by omega)]]
            rw [show (stp U2 U 0) = (U2) from by first | rfl | simp only [oc, iF_t c1, iF_t c2, iF_t c3, iF_t c4, tn_nI (show jb < 2 ^ 31 by omega), tn_nI (show jm0 < 2 ^ 31 by omega), tn_nI (show jn < 2 ^ 31 by omega)]]
            exact hP
          have hD18 : va_D A [(x, .inr (4, [.ref st, .ref tr, .ref ra, .int (nI R), .ref sa, .int tc, .int fl])), (st, .inr (2, [.ref ap, .ref ak, .ref ao, .int (nI M), .int (nI B)])), (ap, aI G 25 P), (ak, aI G 4 K), (ao, aI G 4 U), (tr, .inr (2, [.ref tp, .ref tk, .ref to, .int (stp tM (nI M) 0), .int (stp tB (nI B) 0)])), (tp, aI G 25 (opF P P2 M 0)), (tk, aI G 4 (stp K2 K 0)), (to, aI G 4 (stp U2 U 0))] := by
            rw [show (stp tM (nI M) 0) = (tM) from by first | rfl | simp only [oc, iF_t c1, iF_t c2, iF_t c3, iF_t c4, tn_nI (show jb < 2 ^ 31 by omega), tn_nI (show jm0 < 2 ^ 31 by omega), tn_nI (show jn < 2 ^ 31 by omega)]]
            rw [show (stp tB (nI B) 0) = (tB) from by first | rfl | simp only [oc, iF_t c1, iF_t c2, iF_t c3, iF_t c4, tn_nI (show jb < 2 ^ 31 by omega), tn_nI (show jm0 < 2 ^ 31 by omega), tn_nI (show jn < 2 ^ 31 by omega)]]
            rw [show (opF P P2 M 0) = (P2) from by first | rfl | simp only [oc, iF_t c1, iF_t c2, iF_t c3, iF_t c4, tn_nI (show jb < 2 ^ 31 by omega), tn_nI (show jm0 < 2 ^ 31 by omega), tn_nI (show jn < 2 ^ 31 by omega)]]
            rw [show (stp K2 K 0) = (K2) from by first | rfl | simp only [oc, iF_t c1, iF_t c2, iF_t c3, iF_t c4, tn_nI (show jb < 2 ^ 31 by omega), tn_nI (show jm0 < 2 ^ 31 by omega), tn_nI (show jn < 2 ^ 31 by omega)]]
            rw [show (stp U2 U 0) = (U2) from by first | rfl | simp only [oc, iF_t c1, iF_t c2, iF_t c3, iF_t c4, tn_nI (show jb < 2 ^ 31 by omega), tn_nI (show jm0 < 2 ^ 31 by omega), tn_nI (show jn < 2 ^ 31 by omega)]]
            exact hD
          exact loop1 ((2 ^ M) + 1) 0 s.heap [] ls (by omega) (by omega) hP18 hD18 hS hl17
        ·
          refine lv_ldc2 (v := (-9223372036854775808)) hx hb hown (hts (.constantLong RX4 163 (-9223372036854775808)) (List.mem_of_getElem? (i := 2) rfl)) dX4_odds_44 ?_
          exact hret _ _ _ _ _ (by first | with_reducible rfl | (simp only [s_odds, odv, odG, iF_t c1, iF_t c2, iF_t c3, iF_f c4, tn_nI (show jb < 2 ^ 31 by omega), tn_nI (show jm0 < 2 ^ 31 by omega), tn_nI (show jn < 2 ^ 31 by omega)]; done) | contradiction) (by first | with_reducible exact hP | (simp only [s_odds, odv, odG, iF_t c1, iF_t c2, iF_t c3, iF_f c4, tn_nI (show jb < 2 ^ 31 by omega), tn_nI (show jm0 < 2 ^ 31 by omega), tn_nI (show jn < 2 ^ 31 by omega)]; with_reducible exact hP) | contradiction | (simp only [s_odds, odv, odG, iF_t c1, iF_t c2, iF_t c3, iF_f c4, tn_nI (show jb < 2 ^ 31 by omega), tn_nI (show jm0 < 2 ^ 31 by omega), tn_nI (show jn < 2 ^ 31 by omega)]; exact hP) | exact hP) hS dX4_odds_47
    ·
      refine lv_ldc2 (v := (-9223372036854775808)) hx hb hown (hts (.constantLong RX4 163 (-9223372036854775808)) (List.mem_of_getElem? (i := 2) rfl)) dX4_odds_22 ?_
      exact hret _ _ _ _ _ (by first | with_reducible rfl | (simp only [s_odds, odv, odG, iF_t c1, iF_f c2, tn_nI (show jb < 2 ^ 31 by omega)]; done) | contradiction) (by first | with_reducible exact hP | (simp only [s_odds, odv, odG, iF_t c1, iF_f c2, tn_nI (show jb < 2 ^ 31 by omega)]; with_reducible exact hP) | contradiction | (simp only [s_odds, odv, odG, iF_t c1, iF_f c2, tn_nI (show jb < 2 ^ 31 by omega)]; exact hP) | exact hP) hS dX4_odds_25
