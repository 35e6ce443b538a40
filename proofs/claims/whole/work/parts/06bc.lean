theorem ixX5_isBy_X5 : ∀ w ∈ wsX50, w ∈ wsX5_isBy := fun _ h => List.mem_cons_of_mem _ (List.mem_append_right _ h)
theorem lkX5_isBy_19 : Cond.fieldLink RX5 19 (TX5 7).1 (TX5 7).2.1 (TX5 7).2.2.1 ∈ wsX5_isBy := List.mem_of_getElem? (i := 1) rfl
set_option maxHeartbeats 4000000 in
set_option maxRecDepth 100000 in
theorem kX5_isBy (l : Launch) (G : Gl) (o : Nat) (ff : Int32) (ftr : Int32) (aso : Nat) (asl : Nat) (ace : Nat) (M : Nat) (B : Nat) (ape : Nat) (aki : Nat) (abo : Nat) (at_ : Int32) (rM : Int32) (rB : Int32) (arp : Nat) (ark : Nat) (arb : Nat) (fb : Int32) (fto : Int32) (R : Nat) (awh : Nat) (awn : Nat) (awm : Nat) (awk : Nat) (amo : Nat) (amu : Nat) (P : Nat → Int32) (U : Nat → Int32) (a : Nat) (c0 : Nat) (t : Nat) (b : Nat) (g : Nat) (n : Nat) (hM : M ≤ 5) (ha : a < M) (hc0 : c0 < M) (ht : t ≤ 9) (hb4 : b < 4) (hu : vp_in (U b) M) (hg : g < M) (hn : n ≤ 60) (h9 : P9 P M) : Wt l G yX5_isBy wsX5_isBy ({ frames := 3, cells := 0, slots := 0, locals := 68 } : Room) [.ref o, .int (nI a), .int (nI c0), .int (nI t), .int (nI b), .int (nI g), .int (nI n)] [(o, .inr (5, [.int ff, .int ftr, .ref aso, .ref asl, .ref ace, .int (nI M), .int (nI B), .ref ape, .ref aki, .ref abo, .int at_, .int rM, .int rB, .ref arp, .ref ark, .ref arb, .int fb, .int fto, .int (nI R), .ref awh, .ref awn, .ref awm, .ref awk, .ref amo, .ref amu])), (ape, aI G 25 P), (abo, aI G 4 U)] [(o, .inr (5, [.int ff, .int ftr, .ref aso, .ref asl, .ref ace, .int (nI M), .int (nI B), .ref ape, .ref aki, .ref abo, .int at_, .int rM, .int rB, .ref arp, .ref ark, .ref arb, .int fb, .int fto, .int (nI R), .ref awh, .ref awn, .ref awm, .ref awk, .ref amo, .ref amu])), (ape, aI G 25 P), (abo, aI G 4 U)] (some (.int (bI (isb P M (tn (U b)) n g a c0 t)))) := by
  refine Wt.ofZ (cc := cX5_isBy) (maxL := 9) (by decide) rfl (Nat.le_of_ble_eq_true rfl) ?_
  intro p e s m below meth c Q A ls hE hP hK hD hS hl hret
  obtain ⟨hx, hb, hml, hown, hts⟩ := id hE
  have hl : lv_has ls 9 [(0, .ref o), (1, .int (nI a)), (2, .int (nI c0)), (3, .int (nI t)), (4, .int (nI b)), (5, .int (nI g)), (6, .int (nI n))] := hl
  have hp9 := tn_lt (h9 a c0 ha hc0) (by omega)
  refine lv_iload_n hx hb dX5_isBy_0 rfl (lv_at hl 1 rfl) ?_
  refine lv_iload_n hx hb dX5_isBy_1 rfl (lv_at hl 2 rfl) ?_
  refine rdS (As := [.int (nI a), .int (nI c0)]) (rest := []) hE (kX5_spot l G a c0 ) (va_cwS 2 hts gX5_isBy_X5_spot rfl rfl rfl (by decide +kernel) ⟨Nat.le_of_ble_eq_true rfl, Nat.le_of_ble_eq_true rfl⟩) hP hK [] rfl rfl hl.1 rfl (Nat.le_of_ble_eq_true rfl) dX5_isBy_2 ⟨Nat.zero_le _, Nat.zero_le _⟩ ?_
  refine W.eq (g2 := F0 m 5 ls [.int (nI (a * 5 + c0))]) rfl ?_
  refine lv_istore (lv' := [(7, .int (nI (a * 5 + c0))), (0, .ref o), (1, .int (nI a)), (2, .int (nI c0)), (3, .int (nI t)), (4, .int (nI b)), (5, .int (nI g)), (6, .int (nI n))]) hx hb dX5_isBy_5 hl (by decide) rfl (fun ls hl => ?_)
  refine lv_iload_n hx hb dX5_isBy_7 rfl (lv_at hl 2 rfl) ?_
  refine lv_iload_n hx hb dX5_isBy_8 rfl (lv_at hl 3 rfl) ?_
  refine ic_eq (tgt := 26) hx hb (by omega) (by omega) dX5_isBy_9 (by decide) (fun c1 => ?_) (fun c1 => ?_)
  ·
    refine lv_iconst (v := nI 0) hx hb dX5_isBy_26 (by decide) ?_
    exact hret _ _ _ _ _ ((bI_f (fun h : isb P M (tn (U b)) n g a c0 t => by obtain ⟨q1, q2, q3⟩ := h; first | exact q1 c1 | omega | exact c1 q3)).symm) (hP) hS dX5_isBy_27
  ·
    refine lv_aload_n hx hb dX5_isBy_12 rfl (lv_at hl 1 rfl) ?_
    refine g_get (v := .ref ape) hx hb hts ixX5_isBy_X5 hown hK hP 0 rfl rfl 7 (by decide) lkX5_isBy_19 rfl dX5_isBy_13 ?_
    refine lv_iload hx hb dX5_isBy_16 (lv_at hl 0 rfl) ?_
    refine n_ald hx hb hK hP 1 rfl (k := a * 5 + c0) (by omega) (by decide) dX5_isBy_18 ?_
    refine lv_tope (show P (a * 5 + c0) = nI (tn (P (a * 5 + c0))) from tn_of (h9 a c0 ha hc0) (by omega)) ?_
    refine lv_iload_n hx hb dX5_isBy_19 rfl (lv_at hl 4 rfl) ?_
    refine lv_iadd hx hb dX5_isBy_20 ?_
    refine lv_tope (show (nI (tn (P (a * 5 + c0)))) + (nI t) = nI ((tn (P (a * 5 + c0))) + t) from nI_add _ _) ?_
    refine lv_bipush (v := nI 9) hx hb dX5_isBy_21 (by decide) ?_
    refine ic_le (tgt := 28) hx hb (by omega) (by omega) dX5_isBy_23 (by decide) (fun c2 => ?_) (fun c2 => ?_)
    ·
      refine lv_aload_n hx hb dX5_isBy_28 rfl (lv_at hl 1 rfl) ?_
      refine g_get (v := .ref ape) hx hb hts ixX5_isBy_X5 hown hK hP 0 rfl rfl 7 (by decide) lkX5_isBy_19 rfl dX5_isBy_29 ?_
      refine lv_iload hx hb dX5_isBy_32 (lv_at hl 0 rfl) ?_
      refine lv_dup2_11 hx hb dX5_isBy_34 rfl rfl ?_
      refine n_ald hx hb hK hP 1 rfl (k := a * 5 + c0) (by omega) (by decide) dX5_isBy_35 ?_
      refine lv_tope (show P (a * 5 + c0) = nI (tn (P (a * 5 + c0))) from tn_of (h9 a c0 ha hc0) (by omega)) ?_
      refine lv_iload_n hx hb dX5_isBy_36 rfl (lv_at hl 4 rfl) ?_
      refine lv_iadd hx hb dX5_isBy_37 ?_
      refine lv_tope (show (nI (tn (P (a * 5 + c0)))) + (nI t) = nI ((tn (P (a * 5 + c0))) + t) from nI_add _ _) ?_
      refine n_ast hx hb hK hP hD hS 1 rfl (k := a * 5 + c0) (by omega) (by decide) dX5_isBy_38 (fun H locs hP hD hS => ?_)
      have hP : va_P G.1 vwCl [(o, .inr (5, [.int ff, .int ftr, .ref aso, .ref asl, .ref ace, .int (nI M), .int (nI B), .ref ape, .ref aki, .ref abo, .int at_, .int rM, .int rB, .ref arp, .ref ark, .ref arb, .int fb, .int fto, .int (nI R), .ref awh, .ref awn, .ref awm, .ref awk, .ref amo, .ref amu])), (ape, aI G 25 (upd P (a * 5 + c0) (nI ((tn (P (a * 5 + c0))) + t)))), (abo, aI G 4 U)] H := hP
      have hD : va_D A [(o, .inr (5, [.int ff, .int ftr, .ref aso, .ref asl, .ref ace, .int (nI M), .int (nI B), .ref ape, .ref aki, .ref abo, .int at_, .int rM, .int rB, .ref arp, .ref ark, .ref arb, .int fb, .int fto, .int (nI R), .ref awh, .ref awn, .ref awm, .ref awk, .ref amo, .ref amu])), (ape, aI G 25 (upd P (a * 5 + c0) (nI ((tn (P (a * 5 + c0))) + t)))), (abo, aI G 4 U)] := hD
      refine lv_aload_n hx hb dX5_isBy_39 rfl (lv_at hl 1 rfl) ?_
      refine lv_iload hx hb dX5_isBy_40 (lv_at hl 5 rfl) ?_
      refine lv_iload hx hb dX5_isBy_42 (lv_at hl 7 rfl) ?_
      refine rdV (As := [.int (nI b), .int (nI n)]) (rest := []) (ci := 5) (q0 := 0) hE (kX5_whereOf l G o ff ftr aso asl ace M B ape aki abo at_ rM rB arp ark arb fb fto R awh awn awm awk amo amu (upd P (a * 5 + c0) (nI ((tn (P (a * 5 + c0))) + t))) U b n hM hb4 hu hn) (cwV 2 hts gX5_isBy_X5_whereOf rfl rfl rfl (by decide +kernel) ⟨Nat.le_of_ble_eq_true rfl, Nat.le_of_ble_eq_true rfl⟩) hP hK [0, 1, 2] rfl rfl rfl rfl hl.1 rfl (Nat.le_of_ble_eq_true rfl) dX5_isBy_44 ⟨Nat.zero_le _, Nat.zero_le _⟩ ?_
      refine W.eq (g2 := F0 m 47 ls [.int (nI (wh (upd P (a * 5 + c0) (nI ((tn (P (a * 5 + c0))) + t))) M (tn (U b)) n))]) rfl ?_
      have hwl := wh_lt (P := upd P (a * 5 + c0) (nI (tn (P (a * 5 + c0)) + t))) (tn_lt hu (by omega)) n
      refine lv_iload hx hb dX5_isBy_47 (lv_at hl 6 rfl) ?_
      refine ic_ne (tgt := 56) hx hb (by omega) (by omega) dX5_isBy_49 (by decide) (fun c3 => ?_) (fun c3 => ?_)
      ·
        refine lv_iconst (v := nI 0) hx hb dX5_isBy_56 (by decide) ?_
        refine lv_istore (lv' := [(8, .int (nI 0)), (7, .int (nI (a * 5 + c0))), (0, .ref o), (1, .int (nI a)), (2, .int (nI c0)), (3, .int (nI t)), (4, .int (nI b)), (5, .int (nI g)), (6, .int (nI n))]) hx hb dX5_isBy_57 hl (by decide) rfl (fun ls hl => ?_)
        refine lv_aload_n hx hb dX5_isBy_59 rfl (lv_at hl 2 rfl) ?_
        refine g_get (v := .ref ape) hx hb hts ixX5_isBy_X5 hown hK hP 0 rfl rfl 7 (by decide) lkX5_isBy_19 rfl dX5_isBy_60 ?_
        refine lv_iload hx hb dX5_isBy_63 (lv_at hl 1 rfl) ?_
        refine lv_dup2_11 hx hb dX5_isBy_65 rfl rfl ?_
        refine n_ald hx hb hK hP 1 rfl (k := a * 5 + c0) (by omega) (by decide) dX5_isBy_66 ?_
        refine lv_tope (show (upd P (a * 5 + c0) (nI ((tn (P (a * 5 + c0))) + t))) (a * 5 + c0) = nI (tn (P (a * 5 + c0)) + t) from upS _ _ _) ?_
        refine lv_iload_n hx hb dX5_isBy_67 rfl (lv_at hl 5 rfl) ?_
        refine lv_isub hx hb dX5_isBy_68 ?_
        refine lv_tope (show (nI (tn (P (a * 5 + c0)) + t)) - (nI t) = nI ((tn (P (a * 5 + c0)) + t) - t) from pk_sub (by omega)) ?_
        refine n_ast hx hb hK hP hD hS 1 rfl (k := a * 5 + c0) (by omega) (by decide) dX5_isBy_69 (fun H locs hP hD hS => ?_)
        have hP : va_P G.1 vwCl [(o, .inr (5, [.int ff, .int ftr, .ref aso, .ref asl, .ref ace, .int (nI M), .int (nI B), .ref ape, .ref aki, .ref abo, .int at_, .int rM, .int rB, .ref arp, .ref ark, .ref arb, .int fb, .int fto, .int (nI R), .ref awh, .ref awn, .ref awm, .ref awk, .ref amo, .ref amu])), (ape, aI G 25 (upd (upd P (a * 5 + c0) (nI ((tn (P (a * 5 + c0))) + t))) (a * 5 + c0) (nI ((tn (P (a * 5 + c0)) + t) - t)))), (abo, aI G 4 U)] H := hP
        have hD : va_D A [(o, .inr (5, [.int ff, .int ftr, .ref aso, .ref asl, .ref ace, .int (nI M), .int (nI B), .ref ape, .ref aki, .ref abo, .int at_, .int rM, .int rB, .ref arp, .ref ark, .ref arb, .int fb, .int fto, .int (nI R), .ref awh, .ref awn, .ref awm, .ref awk, .ref amo, .ref amu])), (ape, aI G 25 (upd (upd P (a * 5 + c0) (nI ((tn (P (a * 5 + c0))) + t))) (a * 5 + c0) (nI ((tn (P (a * 5 + c0)) + t) - t)))), (abo, aI G 4 U)] := hD
        have hP : va_P G.1 vwCl [(o, .inr (5, [.int ff, .int ftr, .ref aso, .ref asl, .ref ace, .int (nI M), .int (nI B), .ref ape, .ref aki, .ref abo, .int at_, .int rM, .int rB, .ref arp, .ref ark, .ref arb, .int fb, .int fto, .int (nI R), .ref awh, .ref awn, .ref awm, .ref awk, .ref amo, .ref amu])), (ape, aI G 25 P), (abo, aI G 4 U)] H := by have h0 := hP; rw [isb_back (h9 a c0 ha hc0)] at h0; exact h0
        have hD : va_D A [(o, .inr (5, [.int ff, .int ftr, .ref aso, .ref asl, .ref ace, .int (nI M), .int (nI B), .ref ape, .ref aki, .ref abo, .int at_, .int rM, .int rB, .ref arp, .ref ark, .ref arb, .int fb, .int fto, .int (nI R), .ref awh, .ref awn, .ref awm, .ref awk, .ref amo, .ref amu])), (ape, aI G 25 P), (abo, aI G 4 U)] := by have h0 := hD; rw [isb_back (h9 a c0 ha hc0)] at h0; exact h0
        refine lv_iload hx hb dX5_isBy_70 (lv_at hl 0 rfl) ?_
        exact hret _ _ _ _ _ ((bI_f (fun h : isb P M (tn (U b)) n g a c0 t => by obtain ⟨q1, q2, q3⟩ := h; first | exact q1 c1 | omega | exact c3 q3)).symm) (hP) hS dX5_isBy_72
      ·
        refine lv_iconst (v := nI 1) hx hb dX5_isBy_52 (by decide) ?_
        refine lv_goto (tgt := 57) hx hb dX5_isBy_53 (by decide) ?_
        refine lv_istore (lv' := [(8, .int (nI 1)), (7, .int (nI (a * 5 + c0))), (0, .ref o), (1, .int (nI a)), (2, .int (nI c0)), (3, .int (nI t)), (4, .int (nI b)), (5, .int (nI g)), (6, .int (nI n))]) hx hb dX5_isBy_57 hl (by decide) rfl (fun ls hl => ?_)
        refine lv_aload_n hx hb dX5_isBy_59 rfl (lv_at hl 2 rfl) ?_
        refine g_get (v := .ref ape) hx hb hts ixX5_isBy_X5 hown hK hP 0 rfl rfl 7 (by decide) lkX5_isBy_19 rfl dX5_isBy_60 ?_
        refine lv_iload hx hb dX5_isBy_63 (lv_at hl 1 rfl) ?_
        refine lv_dup2_11 hx hb dX5_isBy_65 rfl rfl ?_
        refine n_ald hx hb hK hP 1 rfl (k := a * 5 + c0) (by omega) (by decide) dX5_isBy_66 ?_
        refine lv_tope (show (upd P (a * 5 + c0) (nI ((tn (P (a * 5 + c0))) + t))) (a * 5 + c0) = nI (tn (P (a * 5 + c0)) + t) from upS _ _ _) ?_
        refine lv_iload_n hx hb dX5_isBy_67 rfl (lv_at hl 5 rfl) ?_
        refine lv_isub hx hb dX5_isBy_68 ?_
        refine lv_tope (show (nI (tn (P (a * 5 + c0)) + t)) - (nI t) = nI ((tn (P (a * 5 + c0)) + t) - t) from pk_sub (by omega)) ?_
        refine n_ast hx hb hK hP hD hS 1 rfl (k := a * 5 + c0) (by omega) (by decide) dX5_isBy_69 (fun H locs hP hD hS => ?_)
        have hP : va_P G.1 vwCl [(o, .inr (5, [.int ff, .int ftr, .ref aso, .ref asl, .ref ace, .int (nI M), .int (nI B), .ref ape, .ref aki, .ref abo, .int at_, .int rM, .int rB, .ref arp, .ref ark, .ref arb, .int fb, .int fto, .int (nI R), .ref awh, .ref awn, .ref awm, .ref awk, .ref amo, .ref amu])), (ape, aI G 25 (upd (upd P (a * 5 + c0) (nI ((tn (P (a * 5 + c0))) + t))) (a * 5 + c0) (nI ((tn (P (a * 5 + c0)) + t) - t)))), (abo, aI G 4 U)] H := hP
        have hD : va_D A [(o, .inr (5, [.int ff, .int ftr, .ref aso, .ref asl, .ref ace, .int (nI M), .int (nI B), .ref ape, .ref aki, .ref abo, .int at_, .int rM, .int rB, .ref arp, .ref ark, .ref arb, .int fb, .int fto, .int (nI R), .ref awh, .ref awn, .ref awm, .ref awk, .ref amo, .ref amu])), (ape, aI G 25 (upd (upd P (a * 5 + c0) (nI ((tn (P (a * 5 + c0))) + t))) (a * 5 + c0) (nI ((tn (P (a * 5 + c0)) + t) - t)))), (abo, aI G 4 U)] := hD
        have hP : va_P G.1 vwCl [(o, .inr (5, [.int ff, .int ftr, .ref aso, .ref asl, .ref ace, .int (nI M), .int (nI B), .ref ape, .ref aki, .ref abo, .int at_, .int rM, .int rB, .ref arp, .ref ark, .ref arb, .int fb, .int fto, .int (nI R), .ref awh, .ref awn, .ref awm, .ref awk, .ref amo, .ref amu])), (ape, aI G 25 P), (abo, aI G 4 U)] H := by have h0 := hP; rw [isb_back (h9 a c0 ha hc0)] at h0; exact h0
        have hD : va_D A [(o, .inr (5, [.int ff, .int ftr, .ref aso, .ref asl, .ref ace, .int (nI M), .int (nI B), .ref ape, .ref aki, .ref abo, .int at_, .int rM, .int rB, .ref arp, .ref ark, .ref arb, .int fb, .int fto, .int (nI R), .ref awh, .ref awn, .ref awm, .ref awk, .ref amo, .ref amu])), (ape, aI G 25 P), (abo, aI G 4 U)] := by have h0 := hD; rw [isb_back (h9 a c0 ha hc0)] at h0; exact h0
        refine lv_iload hx hb dX5_isBy_70 (lv_at hl 0 rfl) ?_
        exact hret _ _ _ _ _ ((bI_t (show isb P M (tn (U b)) n g a c0 t from ⟨c1, c2, c3⟩)).symm) (hP) hS dX5_isBy_72
    ·
      refine lv_iconst (v := nI 0) hx hb dX5_isBy_26 (by decide) ?_
      exact hret _ _ _ _ _ ((bI_f (fun h : isb P M (tn (U b)) n g a c0 t => by obtain ⟨q1, q2, q3⟩ := h; first | exact q1 c1 | omega | exact c2 q3)).symm) (hP) hS dX5_isBy_27
