theorem ixX5_findForge_X5 : ∀ w ∈ wsX50, w ∈ wsX5_findForge := fun _ h => List.mem_cons_of_mem _ (List.mem_append_right _ h)
theorem lkX5_findForge_137 : Cond.fieldLink RX5 137 (TX5 16).1 (TX5 16).2.1 (TX5 16).2.2.1 ∈ wsX5_findForge := List.mem_of_getElem? (i := 1) rfl
theorem lkX5_findForge_140 : Cond.fieldLink RX5 140 (TX5 17).1 (TX5 17).2.1 (TX5 17).2.2.1 ∈ wsX5_findForge := List.mem_of_getElem? (i := 2) rfl
theorem lkX5_findForge_65 : Cond.fieldLink RX5 65 (TX5 5).1 (TX5 5).2.1 (TX5 5).2.2.1 ∈ wsX5_findForge := List.mem_of_getElem? (i := 3) rfl
set_option maxHeartbeats 4000000 in
set_option maxRecDepth 100000 in
theorem kX5_findForge (l : Launch) (G : Gl) (o : Nat) (ff : Int32) (ftr : Int32) (aso : Nat) (asl : Nat) (ace : Nat) (M : Nat) (B : Nat) (ape : Nat) (aki : Nat) (abo : Nat) (at_ : Int32) (rM : Int32) (rB : Int32) (arp : Nat) (ark : Nat) (arb : Nat) (fb : Int32) (fto : Int32) (R : Nat) (awh : Nat) (awn : Nat) (awm : Nat) (awk : Nat) (amo : Nat) (amu : Nat) (P : Nat → Int32) (U : Nat → Int32) (b : Nat) (g : Nat) (n : Nat) (hM : M ≤ 5) (hb4 : b < 4) (hu : vp_in (U b) M) (hg : g < M) (hn : n ≤ 60) (hz : ∀ j, j < M → P (j * 5 + j) = nI 0) (h9 : P9 P M) : Wt l G yX5_findForge wsX5_findForge ({ frames := 4, cells := 0, slots := 0, locals := 96 } : Room) [.ref o, .int (nI b), .int (nI g), .int (nI n)] [(o, .inr (5, [.int ff, .int ftr, .ref aso, .ref asl, .ref ace, .int (nI M), .int (nI B), .ref ape, .ref aki, .ref abo, .int at_, .int rM, .int rB, .ref arp, .ref ark, .ref arb, .int fb, .int fto, .int (nI R), .ref awh, .ref awn, .ref awm, .ref awk, .ref amo, .ref amu])), (ape, aI G 25 P), (abo, aI G 4 U)] [(o, .inr (5, [.int ff, .int ftr, .ref aso, .ref asl, .ref ace, .int (nI M), .int (nI B), .ref ape, .ref aki, .ref abo, .int at_, .int rM, .int rB, .ref arp, .ref ark, .ref arb, .int (iF (wh P M (tn (U b)) n = g) (-9) (e2 M (bst (thx P M (tn (U b)) n g) (M * M)))), .int (iF (wh P M (tn (U b)) n = g) (-9) (e3 M (bst (thx P M (tn (U b)) n g) (M * M)))), .int (nI R), .ref awh, .ref awn, .ref awm, .ref awk, .ref amo, .ref amu])), (ape, aI G 25 P), (abo, aI G 4 U)] (some (.int (iF (wh P M (tn (U b)) n = g) (nI 0) (e1 (bst (thx P M (tn (U b)) n g) (M * M)))))) := by
  refine Wt.ofI (cc := cX5_findForge) (maxL := 6) (by decide) rfl (Nat.le_of_ble_eq_true rfl) ?_
  intro p e s m below meth c Q A ls hE hP hK hD hS hl hret
  obtain ⟨hx, hb, hml, hown, hts⟩ := id hE
  have hl : lv_has ls 6 [(0, .ref o), (1, .int (nI b)), (2, .int (nI g)), (3, .int (nI n))] := hl
  refine lv_aload_n hx hb dX5_findForge_0 rfl (lv_at hl 0 rfl) ?_
  refine lv_bipush (v := (-9)) hx hb dX5_findForge_1 (by decide) ?_
  refine g_put (v := (-9)) hx hb hts ixX5_findForge_X5 tyX5 tyX5_ok nmX5 hown hK hP hD hS 0 rfl rfl 16 (by decide) lkX5_findForge_137 rfl rfl (Nat.le_of_ble_eq_true rfl) dX5_findForge_3 (fun H locs hP hD hS => ?_)
  have hP : va_P G.1 vwCl [(o, .inr (5, [.int ff, .int ftr, .ref aso, .ref asl, .ref ace, .int (nI M), .int (nI B), .ref ape, .ref aki, .ref abo, .int at_, .int rM, .int rB, .ref arp, .ref ark, .ref arb, .int (-9), .int fto, .int (nI R), .ref awh, .ref awn, .ref awm, .ref awk, .ref amo, .ref amu])), (ape, aI G 25 P), (abo, aI G 4 U)] H := hP
  have hD : va_D A [(o, .inr (5, [.int ff, .int ftr, .ref aso, .ref asl, .ref ace, .int (nI M), .int (nI B), .ref ape, .ref aki, .ref abo, .int at_, .int rM, .int rB, .ref arp, .ref ark, .ref arb, .int (-9), .int fto, .int (nI R), .ref awh, .ref awn, .ref awm, .ref awk, .ref amo, .ref amu])), (ape, aI G 25 P), (abo, aI G 4 U)] := hD
  refine lv_aload_n hx hb dX5_findForge_6 rfl (lv_at hl 0 rfl) ?_
  refine lv_bipush (v := (-9)) hx hb dX5_findForge_7 (by decide) ?_
  refine g_put (v := (-9)) hx hb hts ixX5_findForge_X5 tyX5 tyX5_ok nmX5 hown hK hP hD hS 0 rfl rfl 17 (by decide) lkX5_findForge_140 rfl rfl (Nat.le_of_ble_eq_true rfl) dX5_findForge_9 (fun H locs hP hD hS => ?_)
  have hP : va_P G.1 vwCl [(o, .inr (5, [.int ff, .int ftr, .ref aso, .ref asl, .ref ace, .int (nI M), .int (nI B), .ref ape, .ref aki, .ref abo, .int at_, .int rM, .int rB, .ref arp, .ref ark, .ref arb, .int (-9), .int (-9), .int (nI R), .ref awh, .ref awn, .ref awm, .ref awk, .ref amo, .ref amu])), (ape, aI G 25 P), (abo, aI G 4 U)] H := hP
  have hD : va_D A [(o, .inr (5, [.int ff, .int ftr, .ref aso, .ref asl, .ref ace, .int (nI M), .int (nI B), .ref ape, .ref aki, .ref abo, .int at_, .int rM, .int rB, .ref arp, .ref ark, .ref arb, .int (-9), .int (-9), .int (nI R), .ref awh, .ref awn, .ref awm, .ref awk, .ref amo, .ref amu])), (ape, aI G 25 P), (abo, aI G 4 U)] := hD
  refine lv_aload_n hx hb dX5_findForge_12 rfl (lv_at hl 0 rfl) ?_
  refine lv_iload_n hx hb dX5_findForge_13 rfl (lv_at hl 1 rfl) ?_
  refine lv_iload_n hx hb dX5_findForge_14 rfl (lv_at hl 3 rfl) ?_
  refine rdV (As := [.int (nI b), .int (nI n)]) (rest := []) (ci := 5) (q0 := 0) hE (kX5_whereOf l G o ff ftr aso asl ace M B ape aki abo at_ rM rB arp ark arb (-9) (-9) R awh awn awm awk amo amu P U b n hM hb4 hu hn) (cwV 2 hts gX5_findForge_X5_whereOf rfl rfl rfl (by decide +kernel) ⟨Nat.le_of_ble_eq_true rfl, Nat.le_of_ble_eq_true rfl⟩) hP hK [0, 1, 2] rfl rfl rfl rfl hl.1 rfl (Nat.le_of_ble_eq_true rfl) dX5_findForge_15 ⟨Nat.zero_le _, Nat.zero_le _⟩ ?_
  refine W.eq (g2 := F0 m 18 ls [.int (nI (wh P M (tn (U b)) n))]) rfl ?_
  have hul := tn_lt hu (by omega)
  have hwl := wh_lt (P := P) hul n
  have hMM : M * M ≤ 25 := Nat.mul_le_mul hM hM
  refine lv_iload_n hx hb dX5_findForge_18 rfl (lv_at hl 2 rfl) ?_
  refine ic_ne (tgt := 24) hx hb (by omega) (by omega) dX5_findForge_19 (by decide) (fun c1 => ?_) (fun c1 => ?_)
  ·
    have hng := c1
    refine lv_iconst (v := nI 1) hx hb dX5_findForge_24 (by decide) ?_
    refine lv_istore (lv' := [(4, .int (nI 1)), (0, .ref o), (1, .int (nI b)), (2, .int (nI g)), (3, .int (nI n))]) hx hb dX5_findForge_25 hl (by decide) rfl (fun ls hl => ?_)
    have loop1 : ∀ (d q : Nat) (H : Heap) (locs : List Loc) (ls : Array Slot), 9 < q + d → q ≤ 9 → (fi (fun q => ∃ k, k < M * M ∧ isb P M (tn (U b)) n g (k / M) (k % M) (q + 1)) q = none) → va_P G.1 vwCl [(o, .inr (5, [.int ff, .int ftr, .ref aso, .ref asl, .ref ace, .int (nI M), .int (nI B), .ref ape, .ref aki, .ref abo, .int at_, .int rM, .int rB, .ref arp, .ref ark, .ref arb, .int (-9), .int (-9), .int (nI R), .ref awh, .ref awn, .ref awm, .ref awk, .ref amo, .ref amu])), (ape, aI G 25 P), (abo, aI G 4 U)] H → va_D A [(o, .inr (5, [.int ff, .int ftr, .ref aso, .ref asl, .ref ace, .int (nI M), .int (nI B), .ref ape, .ref aki, .ref abo, .int at_, .int rM, .int rB, .ref arp, .ref ark, .ref arb, .int (-9), .int (-9), .int (nI R), .ref awh, .ref awn, .ref awm, .ref awk, .ref amo, .ref amu])), (ape, aI G 25 P), (abo, aI G 4 U)] → va_S A s.heap H locs → lv_has ls 6 [(4, .int (nI (q + 1))), (0, .ref o), (1, .int (nI b)), (2, .int (nI g)), (3, .int (nI n))] → W p l e ({ frames := 4, cells := 0, slots := 0, locals := 96 } : Room) s m ([.ref o, .int (nI b), .int (nI g), .int (nI n)] : List Value).toArray below meth c H locs 0 0 Q (F0 m 27 ls []) := by
      intro d
      induction d with
      | zero =>
        intro q H locs ls h1 h2
        omega
      | succ d ih1 =>
        intro q H locs ls hdq hbq hq hP hD hS hl
        refine lv_iload hx hb dX5_findForge_27 (lv_at hl 0 rfl) ?_
        refine lv_bipush (v := nI 9) hx hb dX5_findForge_29 (by decide) ?_
        refine ic_gt (tgt := 114) hx hb (by omega) (by omega) dX5_findForge_31 (by decide) (fun c2 => ?_) (fun c2 => ?_)
        ·
          obtain rfl : 9 = q := by omega
          have hbs := fm_none hM hul h9 hz hng hq
          refine lv_bipush (v := (-9)) hx hb dX5_findForge_114 (by decide) ?_
          exact hret _ _ _ _ _ (by simp only [iF_f hng]; rw [hbs]; rfl) (by simp only [iF_f hng]; rw [hbs]; exact hP) hS dX5_findForge_116
        ·
          refine lv_iconst (v := nI 0) hx hb dX5_findForge_34 (by decide) ?_
          refine lv_istore (lv' := [(5, .int (nI 0)), (4, .int (nI (q + 1))), (0, .ref o), (1, .int (nI b)), (2, .int (nI g)), (3, .int (nI n))]) hx hb dX5_findForge_35 hl (by decide) rfl (fun ls hl => ?_)
          have loop2 : ∀ (d k : Nat) (H : Heap) (locs : List Loc) (ls : Array Slot), M * M < k + d → k ≤ M * M → (fi (fun k => isb P M (tn (U b)) n g (k / M) (k % M) (q + 1)) k = none) → va_P G.1 vwCl [(o, .inr (5, [.int ff, .int ftr, .ref aso, .ref asl, .ref ace, .int (nI M), .int (nI B), .ref ape, .ref aki, .ref abo, .int at_, .int rM, .int rB, .ref arp, .ref ark, .ref arb, .int (-9), .int (-9), .int (nI R), .ref awh, .ref awn, .ref awm, .ref awk, .ref amo, .ref amu])), (ape, aI G 25 P), (abo, aI G 4 U)] H → va_D A [(o, .inr (5, [.int ff, .int ftr, .ref aso, .ref asl, .ref ace, .int (nI M), .int (nI B), .ref ape, .ref aki, .ref abo, .int at_, .int rM, .int rB, .ref arp, .ref ark, .ref arb, .int (-9), .int (-9), .int (nI R), .ref awh, .ref awn, .ref awm, .ref awk, .ref amo, .ref amu])), (ape, aI G 25 P), (abo, aI G 4 U)] → va_S A s.heap H locs → lv_has ls 6 [(5, .int (nI k)), (4, .int (nI (q + 1))), (0, .ref o), (1, .int (nI b)), (2, .int (nI g)), (3, .int (nI n))] → W p l e ({ frames := 4, cells := 0, slots := 0, locals := 96 } : Room) s m ([.ref o, .int (nI b), .int (nI g), .int (nI n)] : List Value).toArray below meth c H locs 0 0 Q (F0 m 37 ls []) := by
            intro d
            induction d with
            | zero =>
              intro k H locs ls h1 h2
              omega
            | succ d ih2 =>
              intro k H locs ls hdk hbk hk hP hD hS hl
              refine lv_iload hx hb dX5_findForge_37 (lv_at hl 0 rfl) ?_
              refine lv_aload_n hx hb dX5_findForge_39 rfl (lv_at hl 2 rfl) ?_
              refine g_get (v := .int (nI M)) hx hb hts ixX5_findForge_X5 hown hK hP 0 rfl rfl 5 (by decide) lkX5_findForge_65 rfl dX5_findForge_40 ?_
              refine lv_aload_n hx hb dX5_findForge_43 rfl (lv_at hl 2 rfl) ?_
              refine g_get (v := .int (nI M)) hx hb hts ixX5_findForge_X5 hown hK hP 0 rfl rfl 5 (by decide) lkX5_findForge_65 rfl dX5_findForge_44 ?_
              refine lv_imul hx hb dX5_findForge_47 ?_
              refine lv_tope (show (nI M) * (nI M) = nI (M * M) from pk_mul _ _) ?_
              refine ic_ge (tgt := 108) hx hb (by omega) (by omega) dX5_findForge_48 (by decide) (fun c3 => ?_) (fun c3 => ?_)
              ·
                obtain rfl : M * M = k := by omega
                refine lv_iinc (v := nI ((q + 1) + 1)) (lv' := [(4, .int (nI ((q + 1) + 1))), (5, .int (nI (M * M))), (0, .ref o), (1, .int (nI b)), (2, .int (nI g)), (3, .int (nI n))]) hx hb dX5_findForge_108 hl (k := 1) rfl (show nI (q + 1) + Int32.ofInt 1 = nI ((q + 1) + 1) from nI_add _ 1) (by decide) rfl (fun ls hl => ?_)
                refine lv_goto (tgt := 27) hx hb dX5_findForge_111 (by decide) ?_
                exact ih1 (q + 1) H locs ls (by omega) (by omega) (fi_miss hq (fun h => by obtain ⟨k, h1, h2⟩ := h; exact fi_none.mp hk k h1 h2)) hP hD hS (lv_sub hl [0, 2, 3, 4, 5] rfl)
              ·
                have hMM : M * M ≤ 25 := Nat.mul_le_mul hM hM
                have hkd : k / M < M := Nat.div_lt_of_lt_mul (by omega)
                have hkm : k % M < M := Nat.mod_lt _ (by omega)
                refine lv_aload_n hx hb dX5_findForge_51 rfl (lv_at hl 2 rfl) ?_
                refine lv_iload hx hb dX5_findForge_52 (lv_at hl 0 rfl) ?_
                refine lv_aload_n hx hb dX5_findForge_54 rfl (lv_at hl 2 rfl) ?_
                refine g_get (v := .int (nI M)) hx hb hts ixX5_findForge_X5 hown hK hP 0 rfl rfl 5 (by decide) lkX5_findForge_65 rfl dX5_findForge_55 ?_
                refine lv_idiv hx hb dX5_findForge_58 (nI_ne0 (by omega) (by omega)) ?_
                refine lv_tope (show (nI k) / (nI M) = nI (k / M) from pk_div (by omega) (by omega) (by omega)) ?_
                refine lv_iload hx hb dX5_findForge_59 (lv_at hl 0 rfl) ?_
                refine lv_aload_n hx hb dX5_findForge_61 rfl (lv_at hl 2 rfl) ?_
                refine g_get (v := .int (nI M)) hx hb hts ixX5_findForge_X5 hown hK hP 0 rfl rfl 5 (by decide) lkX5_findForge_65 rfl dX5_findForge_62 ?_
                refine lv_irem hx hb dX5_findForge_65 (nI_ne0 (by omega) (by omega)) ?_
                refine lv_tope (show (nI k) - (nI k) / (nI M) * (nI M) = nI (k % M) from pk_rem (by omega) (by omega) (by omega)) ?_
                refine lv_iload hx hb dX5_findForge_66 (lv_at hl 1 rfl) ?_
                refine lv_iload_n hx hb dX5_findForge_68 rfl (lv_at hl 3 rfl) ?_
                refine lv_iload_n hx hb dX5_findForge_69 rfl (lv_at hl 4 rfl) ?_
                refine lv_iload_n hx hb dX5_findForge_70 rfl (lv_at hl 5 rfl) ?_
                refine wtV (As := [.int (nI (k / M)), .int (nI (k % M)), .int (nI (q + 1)), .int (nI b), .int (nI g), .int (nI n)]) (rest := []) (ci := 5) (q0 := 0) hE (kX5_isBy l G o ff ftr aso asl ace M B ape aki abo at_ rM rB arp ark arb (-9) (-9) R awh awn awm awk amo amu P U (k / M) (k % M) (q + 1) b g n hM (by first | omega | assumption | exact hU _ (by omega) | exact hz _ (by omega) | exact hK3 _ (by omega) | exact h9 _ _ (by omega) (by omega)) (by first | omega | assumption | exact hU _ (by omega) | exact hz _ (by omega) | exact hK3 _ (by omega) | exact h9 _ _ (by omega) (by omega)) c2 hb4 hu hg hn h9) (cwV 6 hts gX5_findForge_X5_isBy rfl rfl rfl (by decide +kernel) ⟨Nat.le_of_ble_eq_true rfl, Nat.le_of_ble_eq_true rfl⟩) hP hK hD hS [0, 1, 2] (by decide) rfl (Eq.trans (b := [o, ape, abo]) rfl rfl) (W1 := [(o, .inr (5, [.int ff, .int ftr, .ref aso, .ref asl, .ref ace, .int (nI M), .int (nI B), .ref ape, .ref aki, .ref abo, .int at_, .int rM, .int rB, .ref arp, .ref ark, .ref arb, .int (-9), .int (-9), .int (nI R), .ref awh, .ref awn, .ref awm, .ref awk, .ref amo, .ref amu])), (ape, aI G 25 P), (abo, aI G 4 U)]) rfl rfl rfl rfl hl.1 rfl (Nat.le_of_ble_eq_true rfl) dX5_findForge_71 ⟨Nat.zero_le _, Nat.zero_le _⟩ (fun H locs hP hD hS => ?_)
                refine W.eq (g2 := F0 m 74 ls [.int (bI (isb P M (tn (U b)) n g (k / M) (k % M) (q + 1)))]) rfl ?_
                refine bz_eq (tgt := 102) hx hb dX5_findForge_74 (by decide) (fun c4 => ?_) (fun c4 => ?_)
                ·
                  refine lv_iinc (v := nI (k + 1)) (lv' := [(5, .int (nI (k + 1))), (4, .int (nI (q + 1))), (0, .ref o), (1, .int (nI b)), (2, .int (nI g)), (3, .int (nI n))]) hx hb dX5_findForge_102 hl (k := 0) rfl (show nI k + Int32.ofInt 1 = nI (k + 1) from nI_add _ 1) (by decide) rfl (fun ls hl => ?_)
                  refine lv_goto (tgt := 37) hx hb dX5_findForge_105 (by decide) ?_
                  exact ih2 (k + 1) H locs ls (by omega) (by omega) (fi_miss hk c4) hP hD hS (lv_sub hl [0, 1, 2, 3, 4, 5] rfl)
                ·
                  have hbs := fm_hit hM hul h9 hz hng hq hk (by omega) c4
                  have hMM0 : ¬ nI M = 0 := nI_ne0 (by omega) (by omega)
                  refine lv_aload_n hx hb dX5_findForge_77 rfl (lv_at hl 2 rfl) ?_
                  refine lv_iload hx hb dX5_findForge_78 (lv_at hl 0 rfl) ?_
                  refine lv_aload_n hx hb dX5_findForge_80 rfl (lv_at hl 2 rfl) ?_
                  refine g_get (v := .int (nI M)) hx hb hts ixX5_findForge_X5 hown hK hP 0 rfl rfl 5 (by decide) lkX5_findForge_65 rfl dX5_findForge_81 ?_
                  refine lv_idiv hx hb dX5_findForge_84 (nI_ne0 (by omega) (by omega)) ?_
                  refine lv_tope (show (nI k) / (nI M) = nI (k / M) from pk_div (by omega) (by omega) (by omega)) ?_
                  refine g_put (v := (nI (k / M))) hx hb hts ixX5_findForge_X5 tyX5 tyX5_ok nmX5 hown hK hP hD hS 0 rfl rfl 16 (by decide) lkX5_findForge_137 rfl rfl (Nat.le_of_ble_eq_true rfl) dX5_findForge_85 (fun H locs hP hD hS => ?_)
                  have hP : va_P G.1 vwCl [(o, .inr (5, [.int ff, .int ftr, .ref aso, .ref asl, .ref ace, .int (nI M), .int (nI B), .ref ape, .ref aki, .ref abo, .int at_, .int rM, .int rB, .ref arp, .ref ark, .ref arb, .int (nI (k / M)), .int (-9), .int (nI R), .ref awh, .ref awn, .ref awm, .ref awk, .ref amo, .ref amu])), (ape, aI G 25 P), (abo, aI G 4 U)] H := hP
                  have hD : va_D A [(o, .inr (5, [.int ff, .int ftr, .ref aso, .ref asl, .ref ace, .int (nI M), .int (nI B), .ref ape, .ref aki, .ref abo, .int at_, .int rM, .int rB, .ref arp, .ref ark, .ref arb, .int (nI (k / M)), .int (-9), .int (nI R), .ref awh, .ref awn, .ref awm, .ref awk, .ref amo, .ref amu])), (ape, aI G 25 P), (abo, aI G 4 U)] := hD
                  refine lv_aload_n hx hb dX5_findForge_88 rfl (lv_at hl 2 rfl) ?_
                  refine lv_iload hx hb dX5_findForge_89 (lv_at hl 0 rfl) ?_
                  refine lv_aload_n hx hb dX5_findForge_91 rfl (lv_at hl 2 rfl) ?_
                  refine g_get (v := .int (nI M)) hx hb hts ixX5_findForge_X5 hown hK hP 0 rfl rfl 5 (by decide) lkX5_findForge_65 rfl dX5_findForge_92 ?_
                  refine lv_irem hx hb dX5_findForge_95 (nI_ne0 (by omega) (by omega)) ?_
                  refine lv_tope (show (nI k) - (nI k) / (nI M) * (nI M) = nI (k % M) from pk_rem (by omega) (by omega) (by omega)) ?_
                  refine g_put (v := (nI (k % M))) hx hb hts ixX5_findForge_X5 tyX5 tyX5_ok nmX5 hown hK hP hD hS 0 rfl rfl 17 (by decide) lkX5_findForge_140 rfl rfl (Nat.le_of_ble_eq_true rfl) dX5_findForge_96 (fun H locs hP hD hS => ?_)
                  have hP : va_P G.1 vwCl [(o, .inr (5, [.int ff, .int ftr, .ref aso, .ref asl, .ref ace, .int (nI M), .int (nI B), .ref ape, .ref aki, .ref abo, .int at_, .int rM, .int rB, .ref arp, .ref ark, .ref arb, .int (nI (k / M)), .int (nI (k % M)), .int (nI R), .ref awh, .ref awn, .ref awm, .ref awk, .ref amo, .ref amu])), (ape, aI G 25 P), (abo, aI G 4 U)] H := hP
                  have hD : va_D A [(o, .inr (5, [.int ff, .int ftr, .ref aso, .ref asl, .ref ace, .int (nI M), .int (nI B), .ref ape, .ref aki, .ref abo, .int at_, .int rM, .int rB, .ref arp, .ref ark, .ref arb, .int (nI (k / M)), .int (nI (k % M)), .int (nI R), .ref awh, .ref awn, .ref awm, .ref awk, .ref amo, .ref amu])), (ape, aI G 25 P), (abo, aI G 4 U)] := hD
                  refine lv_iload hx hb dX5_findForge_99 (lv_at hl 1 rfl) ?_
                  exact hret _ _ _ _ _ (by simp only [iF_f hng]; rw [hbs]; rfl) (by simp only [iF_f hng]; rw [hbs]; exact hP) hS dX5_findForge_101
          exact loop2 ((M * M) + 1) 0 H locs ls (by omega) (by omega) rfl hP hD hS (lv_sub hl [0, 1, 2, 3, 4, 5] rfl)
    have hl5 : lv_has ls 6 [(4, .int (nI (0 + 1))), (0, .ref o), (1, .int (nI b)), (2, .int (nI g)), (3, .int (nI n))] := by
      rw [show (nI (0 + 1)) = (nI 1) from by first | rfl | simp only [iF_f c1]]
      exact (lv_sub hl [0, 1, 2, 3, 4] rfl)
    exact loop1 (9 + 1) 0 H locs ls (by omega) (by omega) rfl hP hD hS hl5
  ·
    refine lv_iconst (v := nI 0) hx hb dX5_findForge_22 (by decide) ?_
    exact hret _ _ _ _ _ (by first | with_reducible rfl | (simp only [iF_t c1]; done) | contradiction) (by first | with_reducible exact hP | (simp only [iF_t c1]; with_reducible exact hP) | contradiction | (simp only [iF_t c1]; exact hP) | exact hP) hS dX5_findForge_23
