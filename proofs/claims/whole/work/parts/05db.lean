theorem ixX5_debts_X5 : ∀ w ∈ wsX50, w ∈ wsX5_debts := fun _ h => List.mem_cons_of_mem _ (List.mem_append_right _ h)
theorem lkX5_debts_19 : Cond.fieldLink RX5 19 (TX5 7).1 (TX5 7).2.1 (TX5 7).2.2.1 ∈ wsX5_debts := List.mem_of_getElem? (i := 1) rfl
set_option maxHeartbeats 4000000 in
set_option maxRecDepth 100000 in
theorem kX5_debts (l : Launch) (G : Gl) (o : Nat) (ff : Int32) (ftr : Int32) (aso : Nat) (asl : Nat) (ace : Nat) (M : Nat) (B : Nat) (ape : Nat) (aki : Nat) (abo : Nat) (at_ : Int32) (rM : Int32) (rB : Int32) (arp : Nat) (ark : Nat) (arb : Nat) (fb : Int32) (fto : Int32) (R : Nat) (awh : Nat) (awn : Nat) (awm : Nat) (awk : Nat) (amo : Nat) (amu : Nat) (P : Nat → Int32) (K : Nat → Int32) (U : Nat → Int32) (W1 : Nat → Int32) (N1 : Nat → Int32) (M1 : Nat → Int32) (K1 : Nat → Int32) (a : Int32) (b : Int32) (hM : M ≤ 5) (hB : B ≤ 4) (hR : R ≤ 8) (hU : ∀ b, b < B → vp_in (U b) M) (hK3 : ∀ b, b < B → kd (K b)) (hrd : ∀ q, q < R → vp_in (W1 q) B ∧ vp_in (N1 q) (20 + 1) ∧ vp_in (M1 q) M) : Wt l G yX5_debts wsX5_debts ({ frames := 5, cells := 0, slots := 0, locals := 113 } : Room) [.ref o, .int a, .int b] [(o, .inr (5, [.int ff, .int ftr, .ref aso, .ref asl, .ref ace, .int (nI M), .int (nI B), .ref ape, .ref aki, .ref abo, .int at_, .int rM, .int rB, .ref arp, .ref ark, .ref arb, .int fb, .int fto, .int (nI R), .ref awh, .ref awn, .ref awm, .ref awk, .ref amo, .ref amu])), (ape, aI G 25 P), (aki, aI G 4 K), (abo, aI G 4 U), (awh, aI G 8 W1), (awn, aI G 8 N1), (awm, aI G 8 M1), (awk, aI G 8 K1)] [(o, .inr (5, [.int ff, .int ftr, .ref aso, .ref asl, .ref ace, .int (nI M), .int (nI B), .ref ape, .ref aki, .ref abo, .int at_, .int rM, .int rB, .ref arp, .ref ark, .ref arb, .int fb, .int fto, .int (nI R), .ref awh, .ref awn, .ref awm, .ref awk, .ref amo, .ref amu])), (ape, aI G 25 P), (aki, aI G 4 K), (abo, aI G 4 U), (awh, aI G 8 W1), (awn, aI G 8 N1), (awm, aI G 8 M1), (awk, aI G 8 K1)] (some (.int (s_debts (-9) M P K U W1 N1 M1 K1 R a b))) := by
  refine Wt.ofI (cc := cX5_debts) (maxL := 6) (by decide) rfl (Nat.le_of_ble_eq_true rfl) ?_
  intro p e s m below meth c Q A ls hE hP hK hD hS hl hret
  obtain ⟨hx, hb, hml, hown, hts⟩ := id hE
  have hl : lv_has ls 6 [(0, .ref o), (1, .int a), (2, .int b)] := hl
  refine lv_aload_n hx hb dX5_debts_0 rfl (lv_at hl 0 rfl) ?_
  refine lv_iload_n hx hb dX5_debts_1 rfl (lv_at hl 1 rfl) ?_
  refine rdV (As := [.int a]) (rest := []) (ci := 5) (q0 := 0) hE (kX5_isMaster l G o ff ftr aso asl ace M B ape aki abo at_ rM rB arp ark arb fb fto R awh awn awm awk amo amu a hM) (cwV 1 hts gX5_debts_X5_isMaster rfl rfl rfl (by decide +kernel) ⟨Nat.le_of_ble_eq_true rfl, Nat.le_of_ble_eq_true rfl⟩) hP hK [0] rfl rfl rfl rfl hl.1 rfl (Nat.le_of_ble_eq_true rfl) dX5_debts_2 ⟨Nat.zero_le _, Nat.zero_le _⟩ ?_
  refine W.eq (g2 := F0 m 5 ls [.int (bI (vp_in a M))]) rfl ?_
  refine bz_eq (tgt := 21) hx hb dX5_debts_5 (by decide) (fun c1 => ?_) (fun c1 => ?_)
  ·
    refine lv_iconst (v := (-1)) hx hb dX5_debts_21 (by decide) ?_
    exact hret _ _ _ _ _ (by first | with_reducible rfl | (simp only [s_debts, iF_f (show ¬ hd M a b from fun h => by obtain ⟨h0, h1, h2⟩ := h; first | contradiction | (exact h2 (by rw [c1])))]; done) | contradiction) (hP) hS dX5_debts_22
  ·
    obtain ⟨ja, hja, rfl⟩ := vp_in_of c1 (by omega)
    refine lv_aload_n hx hb dX5_debts_8 rfl (lv_at hl 0 rfl) ?_
    refine lv_iload_n hx hb dX5_debts_9 rfl (lv_at hl 2 rfl) ?_
    refine rdV (As := [.int b]) (rest := []) (ci := 5) (q0 := 0) hE (kX5_isMaster l G o ff ftr aso asl ace M B ape aki abo at_ rM rB arp ark arb fb fto R awh awn awm awk amo amu b hM) (cwV 1 hts gX5_debts_X5_isMaster rfl rfl rfl (by decide +kernel) ⟨Nat.le_of_ble_eq_true rfl, Nat.le_of_ble_eq_true rfl⟩) hP hK [0] rfl rfl rfl rfl hl.1 rfl (Nat.le_of_ble_eq_true rfl) dX5_debts_10 ⟨Nat.zero_le _, Nat.zero_le _⟩ ?_
    refine W.eq (g2 := F0 m 13 ls [.int (bI (vp_in b M))]) rfl ?_
    refine bz_eq (tgt := 21) hx hb dX5_debts_13 (by decide) (fun c2 => ?_) (fun c2 => ?_)
    ·
      refine lv_iconst (v := (-1)) hx hb dX5_debts_21 (by decide) ?_
      exact hret _ _ _ _ _ (by first | with_reducible rfl | (simp only [s_debts, iF_f (show ¬ hd M (nI ja) b from fun h => by obtain ⟨h0, h1, h2⟩ := h; first | contradiction | (exact h2 (by rw [c2]))), tn_nI (show ja < 2 ^ 31 by omega)]; done) | contradiction) (hP) hS dX5_debts_22
    ·
      obtain ⟨jb, hjb, rfl⟩ := vp_in_of c2 (by omega)
      refine lv_iload_n hx hb dX5_debts_16 rfl (lv_at hl 1 rfl) ?_
      refine lv_iload_n hx hb dX5_debts_17 rfl (lv_at hl 2 rfl) ?_
      refine ic_ne (tgt := 23) hx hb (by omega) (by omega) dX5_debts_18 (by decide) (fun c3 => ?_) (fun c3 => ?_)
      ·
        refine lv_aload_n hx hb dX5_debts_23 rfl (lv_at hl 0 rfl) ?_
        refine g_get (v := .ref ape) hx hb hts ixX5_debts_X5 hown hK hP 0 rfl rfl 7 (by decide) lkX5_debts_19 rfl dX5_debts_24 ?_
        refine lv_iload_n hx hb dX5_debts_27 rfl (lv_at hl 1 rfl) ?_
        refine lv_iload_n hx hb dX5_debts_28 rfl (lv_at hl 2 rfl) ?_
        refine rdS (As := [.int (nI ja), .int (nI jb)]) (rest := [.ref ape]) hE (kX5_spot l G ja jb ) (va_cwS 2 hts gX5_debts_X5_spot rfl rfl rfl (by decide +kernel) ⟨Nat.le_of_ble_eq_true rfl, Nat.le_of_ble_eq_true rfl⟩) hP hK [] rfl rfl hl.1 rfl (Nat.le_of_ble_eq_true rfl) dX5_debts_29 ⟨Nat.zero_le _, Nat.zero_le _⟩ ?_
        refine W.eq (g2 := F0 m 32 ls [.int (nI (ja * 5 + jb)), .ref ape]) rfl ?_
        refine n_ald hx hb hK hP 1 rfl (k := ja * 5 + jb) (by omega) (by decide) dX5_debts_32 ?_
        refine lv_istore_n (lv' := [(3, .int (P (ja * 5 + jb))), (0, .ref o), (1, .int (nI ja)), (2, .int (nI jb))]) hx hb dX5_debts_33 rfl hl (by decide) rfl (fun ls hl => ?_)
        refine lv_iconst (v := nI 0) hx hb dX5_debts_34 (by decide) ?_
        refine lv_istore (lv' := [(4, .int (nI 0)), (3, .int (P (ja * 5 + jb))), (0, .ref o), (1, .int (nI ja)), (2, .int (nI jb))]) hx hb dX5_debts_35 hl (by decide) rfl (fun ls hl => ?_)
        refine lv_iconst (v := nI 0) hx hb dX5_debts_37 (by decide) ?_
        refine lv_istore (lv' := [(5, .int (nI 0)), (4, .int (nI 0)), (3, .int (P (ja * 5 + jb))), (0, .ref o), (1, .int (nI ja)), (2, .int (nI jb))]) hx hb dX5_debts_38 hl (by decide) rfl (fun ls hl => ?_)
        have loop1 : ∀ (d k : Nat) (H : Heap) (locs : List Loc) (ls : Array Slot), 10 < k + d → k ≤ 10 → va_P G.1 vwCl [(o, .inr (5, [.int ff, .int ftr, .ref aso, .ref asl, .ref ace, .int (nI M), .int (nI B), .ref ape, .ref aki, .ref abo, .int at_, .int rM, .int rB, .ref arp, .ref ark, .ref arb, .int fb, .int fto, .int (nI R), .ref awh, .ref awn, .ref awm, .ref awk, .ref amo, .ref amu])), (ape, aI G 25 (dbp P (ja * 5 + jb) k)), (aki, aI G 4 K), (abo, aI G 4 U), (awh, aI G 8 W1), (awn, aI G 8 N1), (awm, aI G 8 M1), (awk, aI G 8 K1)] H → va_D A [(o, .inr (5, [.int ff, .int ftr, .ref aso, .ref asl, .ref ace, .int (nI M), .int (nI B), .ref ape, .ref aki, .ref abo, .int at_, .int rM, .int rB, .ref arp, .ref ark, .ref arb, .int fb, .int fto, .int (nI R), .ref awh, .ref awn, .ref awm, .ref awk, .ref amo, .ref amu])), (ape, aI G 25 (dbp P (ja * 5 + jb) k)), (aki, aI G 4 K), (abo, aI G 4 U), (awh, aI G 8 W1), (awn, aI G 8 N1), (awm, aI G 8 M1), (awk, aI G 8 K1)] → va_S A s.heap H locs → lv_has ls 6 [(5, .int (nI k)), (4, .int (setS (fun v => alls (-9) (upd P (ja * 5 + jb) (nI v)) M K U W1 N1 M1 K1 R) k)), (3, .int (P (ja * 5 + jb))), (0, .ref o), (1, .int (nI ja)), (2, .int (nI jb))] → W p l e ({ frames := 5, cells := 0, slots := 0, locals := 113 } : Room) s m ([.ref o, .int (nI ja), .int (nI jb)] : List Value).toArray below meth c H locs 0 0 Q (F0 m 40 ls []) := by
          intro d
          induction d with
          | zero =>
            intro k H locs ls h1 h2
            omega
          | succ d ih1 =>
            intro k H locs ls hdk hbk hP hD hS hl
            refine lv_iload hx hb dX5_debts_40 (lv_at hl 0 rfl) ?_
            refine lv_bipush (v := nI 9) hx hb dX5_debts_42 (by decide) ?_
            refine ic_gt (tgt := 85) hx hb (by omega) (by omega) dX5_debts_44 (by decide) (fun c4 => ?_) (fun c4 => ?_)
            ·
              obtain rfl : 10 = k := by omega
              refine lv_aload_n hx hb dX5_debts_85 rfl (lv_at hl 3 rfl) ?_
              refine g_get (v := .ref ape) hx hb hts ixX5_debts_X5 hown hK hP 0 rfl rfl 7 (by decide) lkX5_debts_19 rfl dX5_debts_86 ?_
              refine lv_iload_n hx hb dX5_debts_89 rfl (lv_at hl 4 rfl) ?_
              refine lv_iload_n hx hb dX5_debts_90 rfl (lv_at hl 5 rfl) ?_
              refine rdS (As := [.int (nI ja), .int (nI jb)]) (rest := [.ref ape]) hE (kX5_spot l G ja jb ) (va_cwS 2 hts gX5_debts_X5_spot rfl rfl rfl (by decide +kernel) ⟨Nat.le_of_ble_eq_true rfl, Nat.le_of_ble_eq_true rfl⟩) hP hK [] rfl rfl hl.1 rfl (Nat.le_of_ble_eq_true rfl) dX5_debts_91 ⟨Nat.zero_le _, Nat.zero_le _⟩ ?_
              refine W.eq (g2 := F0 m 94 ls [.int (nI (ja * 5 + jb)), .ref ape]) rfl ?_
              refine lv_iload_n hx hb dX5_debts_94 rfl (lv_at hl 2 rfl) ?_
              refine n_ast hx hb hK hP hD hS 1 rfl (k := ja * 5 + jb) (by omega) (by decide) dX5_debts_95 (fun H locs hP hD hS => ?_)
              have hP : va_P G.1 vwCl [(o, .inr (5, [.int ff, .int ftr, .ref aso, .ref asl, .ref ace, .int (nI M), .int (nI B), .ref ape, .ref aki, .ref abo, .int at_, .int rM, .int rB, .ref arp, .ref ark, .ref arb, .int fb, .int fto, .int (nI R), .ref awh, .ref awn, .ref awm, .ref awk, .ref amo, .ref amu])), (ape, aI G 25 (upd (dbp P (ja * 5 + jb) 10) (ja * 5 + jb) (P (ja * 5 + jb)))), (aki, aI G 4 K), (abo, aI G 4 U), (awh, aI G 8 W1), (awn, aI G 8 N1), (awm, aI G 8 M1), (awk, aI G 8 K1)] H := hP
              have hD : va_D A [(o, .inr (5, [.int ff, .int ftr, .ref aso, .ref asl, .ref ace, .int (nI M), .int (nI B), .ref ape, .ref aki, .ref abo, .int at_, .int rM, .int rB, .ref arp, .ref ark, .ref arb, .int fb, .int fto, .int (nI R), .ref awh, .ref awn, .ref awm, .ref awk, .ref amo, .ref amu])), (ape, aI G 25 (upd (dbp P (ja * 5 + jb) 10) (ja * 5 + jb) (P (ja * 5 + jb)))), (aki, aI G 4 K), (abo, aI G 4 U), (awh, aI G 8 W1), (awn, aI G 8 N1), (awm, aI G 8 M1), (awk, aI G 8 K1)] := hD
              have hP : va_P G.1 vwCl [(o, .inr (5, [.int ff, .int ftr, .ref aso, .ref asl, .ref ace, .int (nI M), .int (nI B), .ref ape, .ref aki, .ref abo, .int at_, .int rM, .int rB, .ref arp, .ref ark, .ref arb, .int fb, .int fto, .int (nI R), .ref awh, .ref awn, .ref awm, .ref awk, .ref amo, .ref amu])), (ape, aI G 25 P), (aki, aI G 4 K), (abo, aI G 4 U), (awh, aI G 8 W1), (awn, aI G 8 N1), (awm, aI G 8 M1), (awk, aI G 8 K1)] H := by have h0 := hP; rw [dbp_end P (ja * 5 + jb) 10] at h0; exact h0
              have hD : va_D A [(o, .inr (5, [.int ff, .int ftr, .ref aso, .ref asl, .ref ace, .int (nI M), .int (nI B), .ref ape, .ref aki, .ref abo, .int at_, .int rM, .int rB, .ref arp, .ref ark, .ref arb, .int fb, .int fto, .int (nI R), .ref awh, .ref awn, .ref awm, .ref awk, .ref amo, .ref amu])), (ape, aI G 25 P), (aki, aI G 4 K), (abo, aI G 4 U), (awh, aI G 8 W1), (awn, aI G 8 N1), (awm, aI G 8 M1), (awk, aI G 8 K1)] := by have h0 := hD; rw [dbp_end P (ja * 5 + jb) 10] at h0; exact h0
              refine lv_iload hx hb dX5_debts_96 (lv_at hl 1 rfl) ?_
              exact hret _ _ _ _ _ (by first | with_reducible rfl | (simp only [s_debts, iF_t (show hd M (nI ja) (nI jb) from ⟨c1, c2, fun q => c3 ((nI_eq (by omega) (by omega)).mp q)⟩), iF_t c4, tn_nI (show ja < 2 ^ 31 by omega), tn_nI (show jb < 2 ^ 31 by omega)]; done) | contradiction) (hP) hS dX5_debts_98
            ·
              refine lv_aload_n hx hb dX5_debts_47 rfl (lv_at hl 3 rfl) ?_
              refine g_get (v := .ref ape) hx hb hts ixX5_debts_X5 hown hK hP 0 rfl rfl 7 (by decide) lkX5_debts_19 rfl dX5_debts_48 ?_
              refine lv_iload_n hx hb dX5_debts_51 rfl (lv_at hl 4 rfl) ?_
              refine lv_iload_n hx hb dX5_debts_52 rfl (lv_at hl 5 rfl) ?_
              refine rdS (As := [.int (nI ja), .int (nI jb)]) (rest := [.ref ape]) hE (kX5_spot l G ja jb ) (va_cwS 2 hts gX5_debts_X5_spot rfl rfl rfl (by decide +kernel) ⟨Nat.le_of_ble_eq_true rfl, Nat.le_of_ble_eq_true rfl⟩) hP hK [] rfl rfl hl.1 rfl (Nat.le_of_ble_eq_true rfl) dX5_debts_53 ⟨Nat.zero_le _, Nat.zero_le _⟩ ?_
              refine W.eq (g2 := F0 m 56 ls [.int (nI (ja * 5 + jb)), .ref ape]) rfl ?_
              refine lv_iload hx hb dX5_debts_56 (lv_at hl 0 rfl) ?_
              refine n_ast hx hb hK hP hD hS 1 rfl (k := ja * 5 + jb) (by omega) (by decide) dX5_debts_58 (fun H locs hP hD hS => ?_)
              have hP : va_P G.1 vwCl [(o, .inr (5, [.int ff, .int ftr, .ref aso, .ref asl, .ref ace, .int (nI M), .int (nI B), .ref ape, .ref aki, .ref abo, .int at_, .int rM, .int rB, .ref arp, .ref ark, .ref arb, .int fb, .int fto, .int (nI R), .ref awh, .ref awn, .ref awm, .ref awk, .ref amo, .ref amu])), (ape, aI G 25 (upd (dbp P (ja * 5 + jb) k) (ja * 5 + jb) (nI k))), (aki, aI G 4 K), (abo, aI G 4 U), (awh, aI G 8 W1), (awn, aI G 8 N1), (awm, aI G 8 M1), (awk, aI G 8 K1)] H := hP
              have hD : va_D A [(o, .inr (5, [.int ff, .int ftr, .ref aso, .ref asl, .ref ace, .int (nI M), .int (nI B), .ref ape, .ref aki, .ref abo, .int at_, .int rM, .int rB, .ref arp, .ref ark, .ref arb, .int fb, .int fto, .int (nI R), .ref awh, .ref awn, .ref awm, .ref awk, .ref amo, .ref amu])), (ape, aI G 25 (upd (dbp P (ja * 5 + jb) k) (ja * 5 + jb) (nI k))), (aki, aI G 4 K), (abo, aI G 4 U), (awh, aI G 8 W1), (awn, aI G 8 N1), (awm, aI G 8 M1), (awk, aI G 8 K1)] := hD
              have hP : va_P G.1 vwCl [(o, .inr (5, [.int ff, .int ftr, .ref aso, .ref asl, .ref ace, .int (nI M), .int (nI B), .ref ape, .ref aki, .ref abo, .int at_, .int rM, .int rB, .ref arp, .ref ark, .ref arb, .int fb, .int fto, .int (nI R), .ref awh, .ref awn, .ref awm, .ref awk, .ref amo, .ref amu])), (ape, aI G 25 (upd P (ja * 5 + jb) (nI k))), (aki, aI G 4 K), (abo, aI G 4 U), (awh, aI G 8 W1), (awn, aI G 8 N1), (awm, aI G 8 M1), (awk, aI G 8 K1)] H := by have h0 := hP; rw [dbp_upd P (ja * 5 + jb) (nI k) k] at h0; exact h0
              have hD : va_D A [(o, .inr (5, [.int ff, .int ftr, .ref aso, .ref asl, .ref ace, .int (nI M), .int (nI B), .ref ape, .ref aki, .ref abo, .int at_, .int rM, .int rB, .ref arp, .ref ark, .ref arb, .int fb, .int fto, .int (nI R), .ref awh, .ref awn, .ref awm, .ref awk, .ref amo, .ref amu])), (ape, aI G 25 (upd P (ja * 5 + jb) (nI k))), (aki, aI G 4 K), (abo, aI G 4 U), (awh, aI G 8 W1), (awn, aI G 8 N1), (awm, aI G 8 M1), (awk, aI G 8 K1)] := by have h0 := hD; rw [dbp_upd P (ja * 5 + jb) (nI k) k] at h0; exact h0
              refine lv_iload hx hb dX5_debts_59 (lv_at hl 1 rfl) ?_
              refine lv_aload_n hx hb dX5_debts_61 rfl (lv_at hl 3 rfl) ?_
              refine rdV (As := []) (rest := [.int (setS (fun v => alls (-9) (upd P (ja * 5 + jb) (nI v)) M K U W1 N1 M1 K1 R) k)]) (ci := 5) (q0 := 0) hE (kX5_areSo l G o ff ftr aso asl ace M B ape aki abo at_ rM rB arp ark arb fb fto R awh awn awm awk amo amu (upd P (ja * 5 + jb) (nI k)) K U W1 N1 M1 K1 hM hB hR (by first | omega | assumption | exact hU _ (by omega) | exact hz _ (by omega) | exact hK3 _ (by omega)) (by first | omega | assumption | exact hU _ (by omega) | exact hz _ (by omega) | exact hK3 _ (by omega)) hrd) (cwV 0 hts gX5_debts_X5_areSo rfl rfl rfl (by decide +kernel) ⟨Nat.le_of_ble_eq_true rfl, Nat.le_of_ble_eq_true rfl⟩) hP hK [0, 1, 2, 3, 4, 5, 6, 7] rfl rfl rfl rfl hl.1 rfl (Nat.le_of_ble_eq_true rfl) dX5_debts_62 ⟨Nat.zero_le _, Nat.zero_le _⟩ ?_
              refine W.eq (g2 := F0 m 65 ls [.int (bI (alls (-9) (upd P (ja * 5 + jb) (nI k)) M K U W1 N1 M1 K1 R)), .int (setS (fun v => alls (-9) (upd P (ja * 5 + jb) (nI v)) M K U W1 N1 M1 K1 R) k)]) rfl ?_
              refine bz_eq (tgt := 75) hx hb dX5_debts_65 (by decide) (fun c5 => ?_) (fun c5 => ?_)
              ·
                refine lv_iconst (v := nI 0) hx hb dX5_debts_75 (by decide) ?_
                refine lv_ior hx hb dX5_debts_76 ?_
                refine lv_istore (lv' := [(4, .int ((setS (fun v => alls (-9) (upd P (ja * 5 + jb) (nI v)) M K U W1 N1 M1 K1 R) k) ||| (nI 0))), (5, .int (nI k)), (3, .int (P (ja * 5 + jb))), (0, .ref o), (1, .int (nI ja)), (2, .int (nI jb))]) hx hb dX5_debts_77 hl (by decide) rfl (fun ls hl => ?_)
                refine lv_iinc (v := nI (k + 1)) (lv' := [(5, .int (nI (k + 1))), (4, .int ((setS (fun v => alls (-9) (upd P (ja * 5 + jb) (nI v)) M K U W1 N1 M1 K1 R) k) ||| (nI 0))), (3, .int (P (ja * 5 + jb))), (0, .ref o), (1, .int (nI ja)), (2, .int (nI jb))]) hx hb dX5_debts_79 hl (k := 1) rfl (show nI k + Int32.ofInt 1 = nI (k + 1) from nI_add _ 1) (by decide) rfl (fun ls hl => ?_)
                refine lv_goto (tgt := 40) hx hb dX5_debts_82 (by decide) ?_
                have hl6 : lv_has ls 6 [(5, .int (nI (k + 1))), (4, .int (setS (fun v => alls (-9) (upd P (ja * 5 + jb) (nI v)) M K U W1 N1 M1 K1 R) (k + 1))), (3, .int (P (ja * 5 + jb))), (0, .ref o), (1, .int (nI ja)), (2, .int (nI jb))] := by
                  rw [show (setS (fun v => alls (-9) (upd P (ja * 5 + jb) (nI v)) M K U W1 N1 M1 K1 R) (k + 1)) = ((setS (fun v => alls (-9) (upd P (ja * 5 + jb) (nI v)) M K U W1 N1 M1 K1 R) k) ||| (nI 0)) from by first | rfl | simp only [setS, dbp, iF_t (show hd M (nI ja) (nI jb) from ⟨c1, c2, fun q => c3 ((nI_eq (by omega) (by omega)).mp q)⟩), iF_f (Nat.not_lt.mpr c4), iF_f c5, tn_nI (show ja < 2 ^ 31 by omega), tn_nI (show jb < 2 ^ 31 by omega)]]
                  exact (lv_sub hl [0, 1, 2, 3, 4, 5] rfl)
                have hP7 : va_P G.1 vwCl [(o, .inr (5, [.int ff, .int ftr, .ref aso, .ref asl, .ref ace, .int (nI M), .int (nI B), .ref ape, .ref aki, .ref abo, .int at_, .int rM, .int rB, .ref arp, .ref ark, .ref arb, .int fb, .int fto, .int (nI R), .ref awh, .ref awn, .ref awm, .ref awk, .ref amo, .ref amu])), (ape, aI G 25 (dbp P (ja * 5 + jb) (k + 1))), (aki, aI G 4 K), (abo, aI G 4 U), (awh, aI G 8 W1), (awn, aI G 8 N1), (awm, aI G 8 M1), (awk, aI G 8 K1)] H := by
                  rw [show (dbp P (ja * 5 + jb) (k + 1)) = (upd P (ja * 5 + jb) (nI k)) from by first | rfl | simp only [setS, dbp, iF_t (show hd M (nI ja) (nI jb) from ⟨c1, c2, fun q => c3 ((nI_eq (by omega) (by omega)).mp q)⟩), iF_f (Nat.not_lt.mpr c4), iF_f c5, tn_nI (show ja < 2 ^ 31 by omega), tn_nI (show jb < 2 ^ 31 by omega)]]
                  exact hP
                have hD7 : va_D A [(o, .inr (5, [.int ff, .int ftr, .ref aso, .ref asl, .ref ace, .int (nI M), .int (nI B), .ref ape, .ref aki, .ref abo, .int at_, .int rM, .int rB, .ref arp, .ref ark, .ref arb, .int fb, .int fto, .int (nI R), .ref awh, .ref awn, .ref awm, .ref awk, .ref amo, .ref amu])), (ape, aI G 25 (dbp P (ja * 5 + jb) (k + 1))), (aki, aI G 4 K), (abo, aI G 4 U), (awh, aI G 8 W1), (awn, aI G 8 N1), (awm, aI G 8 M1), (awk, aI G 8 K1)] := by
                  rw [show (dbp P (ja * 5 + jb) (k + 1)) = (upd P (ja * 5 + jb) (nI k)) from by first | rfl | simp only [setS, dbp, iF_t (show hd M (nI ja) (nI jb) from ⟨c1, c2, fun q => c3 ((nI_eq (by omega) (by omega)).mp q)⟩), iF_f (Nat.not_lt.mpr c4), iF_f c5, tn_nI (show ja < 2 ^ 31 by omega), tn_nI (show jb < 2 ^ 31 by omega)]]
                  exact hD
                exact ih1 (k + 1) H locs ls (by omega) (by omega) hP7 hD7 hS hl6
              ·
                refine lv_iconst (v := nI 1) hx hb dX5_debts_68 (by decide) ?_
                refine lv_iload hx hb dX5_debts_69 (lv_at hl 0 rfl) ?_
                refine lv_ishl hx hb dX5_debts_71 ?_
                refine lv_goto (tgt := 76) hx hb dX5_debts_72 (by decide) ?_
                refine lv_ior hx hb dX5_debts_76 ?_
                refine lv_istore (lv' := [(4, .int ((setS (fun v => alls (-9) (upd P (ja * 5 + jb) (nI v)) M K U W1 N1 M1 K1 R) k) ||| ((nI 1) <<< (nI k &&& 31)))), (5, .int (nI k)), (3, .int (P (ja * 5 + jb))), (0, .ref o), (1, .int (nI ja)), (2, .int (nI jb))]) hx hb dX5_debts_77 hl (by decide) rfl (fun ls hl => ?_)
                refine lv_iinc (v := nI (k + 1)) (lv' := [(5, .int (nI (k + 1))), (4, .int ((setS (fun v => alls (-9) (upd P (ja * 5 + jb) (nI v)) M K U W1 N1 M1 K1 R) k) ||| ((nI 1) <<< (nI k &&& 31)))), (3, .int (P (ja * 5 + jb))), (0, .ref o), (1, .int (nI ja)), (2, .int (nI jb))]) hx hb dX5_debts_79 hl (k := 1) rfl (show nI k + Int32.ofInt 1 = nI (k + 1) from nI_add _ 1) (by decide) rfl (fun ls hl => ?_)
                refine lv_goto (tgt := 40) hx hb dX5_debts_82 (by decide) ?_
                have hl8 : lv_has ls 6 [(5, .int (nI (k + 1))), (4, .int (setS (fun v => alls (-9) (upd P (ja * 5 + jb) (nI v)) M K U W1 N1 M1 K1 R) (k + 1))), (3, .int (P (ja * 5 + jb))), (0, .ref o), (1, .int (nI ja)), (2, .int (nI jb))] := by
                  rw [show (setS (fun v => alls (-9) (upd P (ja * 5 + jb) (nI v)) M K U W1 N1 M1 K1 R) (k + 1)) = ((setS (fun v => alls (-9) (upd P (ja * 5 + jb) (nI v)) M K U W1 N1 M1 K1 R) k) ||| ((nI 1) <<< (nI k &&& 31))) from by first | rfl | simp only [setS, dbp, iF_t (show hd M (nI ja) (nI jb) from ⟨c1, c2, fun q => c3 ((nI_eq (by omega) (by omega)).mp q)⟩), iF_f (Nat.not_lt.mpr c4), iF_t c5, tn_nI (show ja < 2 ^ 31 by omega), tn_nI (show jb < 2 ^ 31 by omega)]]
                  exact (lv_sub hl [0, 1, 2, 3, 4, 5] rfl)
                have hP9 : va_P G.1 vwCl [(o, .inr (5, [.int ff, .int ftr, .ref aso, .ref asl, .ref ace, .int (nI M), .int (nI B), .ref ape, .ref aki, .ref abo, .int at_, .int rM, .int rB, .ref arp, .ref ark, .ref arb, .int fb, .int fto, .int (nI R), .ref awh, .ref awn, .ref awm, .ref awk, .ref amo, .ref amu])), (ape, aI G 25 (dbp P (ja * 5 + jb) (k + 1))), (aki, aI G 4 K), (abo, aI G 4 U), (awh, aI G 8 W1), (awn, aI G 8 N1), (awm, aI G 8 M1), (awk, aI G 8 K1)] H := by
                  rw [show (dbp P (ja * 5 + jb) (k + 1)) = (upd P (ja * 5 + jb) (nI k)) from by first | rfl | simp only [setS, dbp, iF_t (show hd M (nI ja) (nI jb) from ⟨c1, c2, fun q => c3 ((nI_eq (by omega) (by omega)).mp q)⟩), iF_f (Nat.not_lt.mpr c4), iF_t c5, tn_nI (show ja < 2 ^ 31 by omega), tn_nI (show jb < 2 ^ 31 by omega)]]
                  exact hP
                have hD9 : va_D A [(o, .inr (5, [.int ff, .int ftr, .ref aso, .ref asl, .ref ace, .int (nI M), .int (nI B), .ref ape, .ref aki, .ref abo, .int at_, .int rM, .int rB, .ref arp, .ref ark, .ref arb, .int fb, .int fto, .int (nI R), .ref awh, .ref awn, .ref awm, .ref awk, .ref amo, .ref amu])), (ape, aI G 25 (dbp P (ja * 5 + jb) (k + 1))), (aki, aI G 4 K), (abo, aI G 4 U), (awh, aI G 8 W1), (awn, aI G 8 N1), (awm, aI G 8 M1), (awk, aI G 8 K1)] := by
                  rw [show (dbp P (ja * 5 + jb) (k + 1)) = (upd P (ja * 5 + jb) (nI k)) from by first | rfl | simp only [setS, dbp, iF_t (show hd M (nI ja) (nI jb) from ⟨c1, c2, fun q => c3 ((nI_eq (by omega) (by omega)).mp q)⟩), iF_f (Nat.not_lt.mpr c4), iF_t c5, tn_nI (show ja < 2 ^ 31 by omega), tn_nI (show jb < 2 ^ 31 by omega)]]
                  exact hD
                exact ih1 (k + 1) H locs ls (by omega) (by omega) hP9 hD9 hS hl8
        have hl10 : lv_has ls 6 [(5, .int (nI 0)), (4, .int (setS (fun v => alls (-9) (upd P (ja * 5 + jb) (nI v)) M K U W1 N1 M1 K1 R) 0)), (3, .int (P (ja * 5 + jb))), (0, .ref o), (1, .int (nI ja)), (2, .int (nI jb))] := by
          rw [show (setS (fun v => alls (-9) (upd P (ja * 5 + jb) (nI v)) M K U W1 N1 M1 K1 R) 0) = (nI 0) from by first | rfl | simp only [setS, dbp, iF_t (show hd M (nI ja) (nI jb) from ⟨c1, c2, fun q => c3 ((nI_eq (by omega) (by omega)).mp q)⟩), tn_nI (show ja < 2 ^ 31 by omega), tn_nI (show jb < 2 ^ 31 by omega)]]
          exact (lv_sub hl [0, 1, 2, 3, 4, 5] rfl)
        have hP11 : va_P G.1 vwCl [(o, .inr (5, [.int ff, .int ftr, .ref aso, .ref asl, .ref ace, .int (nI M), .int (nI B), .ref ape, .ref aki, .ref abo, .int at_, .int rM, .int rB, .ref arp, .ref ark, .ref arb, .int fb, .int fto, .int (nI R), .ref awh, .ref awn, .ref awm, .ref awk, .ref amo, .ref amu])), (ape, aI G 25 (dbp P (ja * 5 + jb) 0)), (aki, aI G 4 K), (abo, aI G 4 U), (awh, aI G 8 W1), (awn, aI G 8 N1), (awm, aI G 8 M1), (awk, aI G 8 K1)] s.heap := by
          rw [show (dbp P (ja * 5 + jb) 0) = (P) from by first | rfl | simp only [setS, dbp, iF_t (show hd M (nI ja) (nI jb) from ⟨c1, c2, fun q => c3 ((nI_eq (by omega) (by omega)).mp q)⟩), tn_nI (show ja < 2 ^ 31 by omega), tn_nI (show jb < 2 ^ 31 by omega)]]
          exact hP
        have hD11 : va_D A [(o, .inr (5, [.int ff, .int ftr, .ref aso, .ref asl, .ref ace, .int (nI M), .int (nI B), .ref ape, .ref aki, .ref abo, .int at_, .int rM, .int rB, .ref arp, .ref ark, .ref arb, .int fb, .int fto, .int (nI R), .ref awh, .ref awn, .ref awm, .ref awk, .ref amo, .ref amu])), (ape, aI G 25 (dbp P (ja * 5 + jb) 0)), (aki, aI G 4 K), (abo, aI G 4 U), (awh, aI G 8 W1), (awn, aI G 8 N1), (awm, aI G 8 M1), (awk, aI G 8 K1)] := by
          rw [show (dbp P (ja * 5 + jb) 0) = (P) from by first | rfl | simp only [setS, dbp, iF_t (show hd M (nI ja) (nI jb) from ⟨c1, c2, fun q => c3 ((nI_eq (by omega) (by omega)).mp q)⟩), tn_nI (show ja < 2 ^ 31 by omega), tn_nI (show jb < 2 ^ 31 by omega)]]
          exact hD
        exact loop1 (10 + 1) 0 s.heap [] ls (by omega) (by omega) hP11 hD11 hS hl10
      ·
        refine lv_iconst (v := (-1)) hx hb dX5_debts_21 (by decide) ?_
        exact hret _ _ _ _ _ (by first | with_reducible rfl | (simp only [s_debts, iF_f (show ¬ hd M (nI ja) (nI jb) from fun h => by obtain ⟨h0, h1, h2⟩ := h; first | contradiction | (exact h2 (by rw [c3]))), tn_nI (show ja < 2 ^ 31 by omega), tn_nI (show jb < 2 ^ 31 by omega)]; done) | contradiction) (hP) hS dX5_debts_22

theorem ixX5_bound_X5 : ∀ w ∈ wsX50, w ∈ wsX5_bound := fun _ h => List.mem_cons_of_mem _ (List.mem_append_right _ h)
theorem lkX5_bound_25 : Cond.fieldLink RX5 25 (TX5 9).1 (TX5 9).2.1 (TX5 9).2.2.1 ∈ wsX5_bound := List.mem_of_getElem? (i := 1) rfl
theorem lkX5_bound_65 : Cond.fieldLink RX5 65 (TX5 5).1 (TX5 5).2.1 (TX5 5).2.2.1 ∈ wsX5_bound := List.mem_of_getElem? (i := 2) rfl
set_option maxHeartbeats 4000000 in
set_option maxRecDepth 100000 in
theorem kX5_bound (l : Launch) (G : Gl) (o : Nat) (ff : Int32) (ftr : Int32) (aso : Nat) (asl : Nat) (ace : Nat) (M : Nat) (B : Nat) (ape : Nat) (aki : Nat) (abo : Nat) (at_ : Int32) (rM : Int32) (rB : Int32) (arp : Nat) (ark : Nat) (arb : Nat) (fb : Int32) (fto : Int32) (R : Nat) (awh : Nat) (awn : Nat) (awm : Nat) (awk : Nat) (amo : Nat) (amu : Nat) (P : Nat → Int32) (K : Nat → Int32) (U : Nat → Int32) (W1 : Nat → Int32) (N1 : Nat → Int32) (M1 : Nat → Int32) (K1 : Nat → Int32) (b : Int32) (hM : M ≤ 5) (hB : B ≤ 4) (hR : R ≤ 8) (hU : ∀ b, b < B → vp_in (U b) M) (hK3 : ∀ b, b < B → kd (K b)) (hrd : ∀ q, q < R → vp_in (W1 q) B ∧ vp_in (N1 q) (20 + 1) ∧ vp_in (M1 q) M) : Wt l G yX5_bound wsX5_bound ({ frames := 5, cells := 0, slots := 0, locals := 113 } : Room) [.ref o, .int b] [(o, .inr (5, [.int ff, .int ftr, .ref aso, .ref asl, .ref ace, .int (nI M), .int (nI B), .ref ape, .ref aki, .ref abo, .int at_, .int rM, .int rB, .ref arp, .ref ark, .ref arb, .int fb, .int fto, .int (nI R), .ref awh, .ref awn, .ref awm, .ref awk, .ref amo, .ref amu])), (ape, aI G 25 P), (aki, aI G 4 K), (abo, aI G 4 U), (awh, aI G 8 W1), (awn, aI G 8 N1), (awm, aI G 8 M1), (awk, aI G 8 K1)] [(o, .inr (5, [.int ff, .int ftr, .ref aso, .ref asl, .ref ace, .int (nI M), .int (nI B), .ref ape, .ref aki, .ref abo, .int at_, .int rM, .int rB, .ref arp, .ref ark, .ref arb, .int fb, .int fto, .int (nI R), .ref awh, .ref awn, .ref awm, .ref awk, .ref amo, .ref amu])), (ape, aI G 25 P), (aki, aI G 4 K), (abo, aI G 4 U), (awh, aI G 8 W1), (awn, aI G 8 N1), (awm, aI G 8 M1), (awk, aI G 8 K1)] (some (.int (s_bound (-9) B M P K U W1 N1 M1 K1 R b))) := by
  refine Wt.ofI (cc := cX5_bound) (maxL := 5) (by decide) rfl (Nat.le_of_ble_eq_true rfl) ?_
  intro p e s m below meth c Q A ls hE hP hK hD hS hl hret
  obtain ⟨hx, hb, hml, hown, hts⟩ := id hE
  have hl : lv_has ls 5 [(0, .ref o), (1, .int b)] := hl
  refine lv_aload_n hx hb dX5_bound_0 rfl (lv_at hl 0 rfl) ?_
  refine lv_iload_n hx hb dX5_bound_1 rfl (lv_at hl 1 rfl) ?_
  refine rdV (As := [.int b]) (rest := []) (ci := 5) (q0 := 0) hE (kX5_isBoy l G o ff ftr aso asl ace M B ape aki abo at_ rM rB arp ark arb fb fto R awh awn awm awk amo amu b hB) (cwV 1 hts gX5_bound_X5_isBoy rfl rfl rfl (by decide +kernel) ⟨Nat.le_of_ble_eq_true rfl, Nat.le_of_ble_eq_true rfl⟩) hP hK [0] rfl rfl rfl rfl hl.1 rfl (Nat.le_of_ble_eq_true rfl) dX5_bound_2 ⟨Nat.zero_le _, Nat.zero_le _⟩ ?_
  refine W.eq (g2 := F0 m 5 ls [.int (bI (vp_in b B))]) rfl ?_
  refine bz_ne (tgt := 10) hx hb dX5_bound_5 (by decide) (fun c1 => ?_) (fun c1 => ?_)
  ·
    obtain ⟨jb, hjb, rfl⟩ := vp_in_of c1 (by omega)
    refine lv_aload_n hx hb dX5_bound_10 rfl (lv_at hl 0 rfl) ?_
    refine g_get (v := .ref abo) hx hb hts ixX5_bound_X5 hown hK hP 0 rfl rfl 9 (by decide) lkX5_bound_25 rfl dX5_bound_11 ?_
    refine lv_iload_n hx hb dX5_bound_14 rfl (lv_at hl 1 rfl) ?_
    refine n_ald hx hb hK hP 3 rfl (k := jb) (by omega) (by decide) dX5_bound_15 ?_
    refine lv_istore_n (lv' := [(2, .int (U jb)), (0, .ref o), (1, .int (nI jb))]) hx hb dX5_bound_16 rfl hl (by decide) rfl (fun ls hl => ?_)
    refine lv_iconst (v := nI 0) hx hb dX5_bound_17 (by decide) ?_
    refine lv_istore_n (lv' := [(3, .int (nI 0)), (2, .int (U jb)), (0, .ref o), (1, .int (nI jb))]) hx hb dX5_bound_18 rfl hl (by decide) rfl (fun ls hl => ?_)
    refine lv_iconst (v := nI 0) hx hb dX5_bound_19 (by decide) ?_
    refine lv_istore (lv' := [(4, .int (nI 0)), (3, .int (nI 0)), (2, .int (U jb)), (0, .ref o), (1, .int (nI jb))]) hx hb dX5_bound_20 hl (by decide) rfl (fun ls hl => ?_)
    have loop1 : ∀ (d k : Nat) (H : Heap) (locs : List Loc) (ls : Array Slot), M < k + d → k ≤ M → va_P G.1 vwCl [(o, .inr (5, [.int ff, .int ftr, .ref aso, .ref asl, .ref ace, .int (nI M), .int (nI B), .ref ape, .ref aki, .ref abo, .int at_, .int rM, .int rB, .ref arp, .ref ark, .ref arb, .int fb, .int fto, .int (nI R), .ref awh, .ref awn, .ref awm, .ref awk, .ref amo, .ref amu])), (ape, aI G 25 P), (aki, aI G 4 K), (abo, aI G 4 (dbp U jb k)), (awh, aI G 8 W1), (awn, aI G 8 N1), (awm, aI G 8 M1), (awk, aI G 8 K1)] H → va_D A [(o, .inr (5, [.int ff, .int ftr, .ref aso, .ref asl, .ref ace, .int (nI M), .int (nI B), .ref ape, .ref aki, .ref abo, .int at_, .int rM, .int rB, .ref arp, .ref ark, .ref arb, .int fb, .int fto, .int (nI R), .ref awh, .ref awn, .ref awm, .ref awk, .ref amo, .ref amu])), (ape, aI G 25 P), (aki, aI G 4 K), (abo, aI G 4 (dbp U jb k)), (awh, aI G 8 W1), (awn, aI G 8 N1), (awm, aI G 8 M1), (awk, aI G 8 K1)] → va_S A s.heap H locs → lv_has ls 5 [(4, .int (nI k)), (3, .int (setS (fun v => alls (-9) P M K (upd U jb (nI v)) W1 N1 M1 K1 R) k)), (2, .int (U jb)), (0, .ref o), (1, .int (nI jb))] → W p l e ({ frames := 5, cells := 0, slots := 0, locals := 113 } : Room) s m ([.ref o, .int (nI jb)] : List Value).toArray below meth c H locs 0 0 Q (F0 m 22 ls []) := by
      intro d
      induction d with
      | zero =>
        intro k H locs ls h1 h2
        omega
      | succ d ih1 =>
        intro k H locs ls hdk hbk hP hD hS hl
        refine lv_iload hx hb dX5_bound_22 (lv_at hl 0 rfl) ?_
        refine lv_aload_n hx hb dX5_bound_24 rfl (lv_at hl 3 rfl) ?_
        refine g_get (v := .int (nI M)) hx hb hts ixX5_bound_X5 hown hK hP 0 rfl rfl 5 (by decide) lkX5_bound_65 rfl dX5_bound_25 ?_
        refine ic_ge (tgt := 63) hx hb (by omega) (by omega) dX5_bound_28 (by decide) (fun c2 => ?_) (fun c2 => ?_)
        ·
          obtain rfl : M = k := by omega
          refine lv_aload_n hx hb dX5_bound_63 rfl (lv_at hl 3 rfl) ?_
          refine g_get (v := .ref abo) hx hb hts ixX5_bound_X5 hown hK hP 0 rfl rfl 9 (by decide) lkX5_bound_25 rfl dX5_bound_64 ?_
          refine lv_iload_n hx hb dX5_bound_67 rfl (lv_at hl 4 rfl) ?_
          refine lv_iload_n hx hb dX5_bound_68 rfl (lv_at hl 2 rfl) ?_
          refine n_ast hx hb hK hP hD hS 3 rfl (k := jb) (by omega) (by decide) dX5_bound_69 (fun H locs hP hD hS => ?_)
          have hP : va_P G.1 vwCl [(o, .inr (5, [.int ff, .int ftr, .ref aso, .ref asl, .ref ace, .int (nI M), .int (nI B), .ref ape, .ref aki, .ref abo, .int at_, .int rM, .int rB, .ref arp, .ref ark, .ref arb, .int fb, .int fto, .int (nI R), .ref awh, .ref awn, .ref awm, .ref awk, .ref amo, .ref amu])), (ape, aI G 25 P), (aki, aI G 4 K), (abo, aI G 4 (upd (dbp U jb M) jb (U jb))), (awh, aI G 8 W1), (awn, aI G 8 N1), (awm, aI G 8 M1), (awk, aI G 8 K1)] H := hP
          have hD : va_D A [(o, .inr (5, [.int ff, .int ftr, .ref aso, .ref asl, .ref ace, .int (nI M), .int (nI B), .ref ape, .ref aki, .ref abo, .int at_, .int rM, .int rB, .ref arp, .ref ark, .ref arb, .int fb, .int fto, .int (nI R), .ref awh, .ref awn, .ref awm, .ref awk, .ref amo, .ref amu])), (ape, aI G 25 P), (aki, aI G 4 K), (abo, aI G 4 (upd (dbp U jb M) jb (U jb))), (awh, aI G 8 W1), (awn, aI G 8 N1), (awm, aI G 8 M1), (awk, aI G 8 K1)] := hD
          have hP : va_P G.1 vwCl [(o, .inr (5, [.int ff, .int ftr, .ref aso, .ref asl, .ref ace, .int (nI M), .int (nI B), .ref ape, .ref aki, .ref abo, .int at_, .int rM, .int rB, .ref arp, .ref ark, .ref arb, .int fb, .int fto, .int (nI R), .ref awh, .ref awn, .ref awm, .ref awk, .ref amo, .ref amu])), (ape, aI G 25 P), (aki, aI G 4 K), (abo, aI G 4 U), (awh, aI G 8 W1), (awn, aI G 8 N1), (awm, aI G 8 M1), (awk, aI G 8 K1)] H := by have h0 := hP; rw [dbp_end U jb M] at h0; exact h0
          have hD : va_D A [(o, .inr (5, [.int ff, .int ftr, .ref aso, .ref asl, .ref ace, .int (nI M), .int (nI B), .ref ape, .ref aki, .ref abo, .int at_, .int rM, .int rB, .ref arp, .ref ark, .ref arb, .int fb, .int fto, .int (nI R), .ref awh, .ref awn, .ref awm, .ref awk, .ref amo, .ref amu])), (ape, aI G 25 P), (aki, aI G 4 K), (abo, aI G 4 U), (awh, aI G 8 W1), (awn, aI G 8 N1), (awm, aI G 8 M1), (awk, aI G 8 K1)] := by have h0 := hD; rw [dbp_end U jb M] at h0; exact h0
          refine lv_iload_n hx hb dX5_bound_70 rfl (lv_at hl 1 rfl) ?_
          exact hret _ _ _ _ _ (by first | with_reducible rfl | (simp only [s_bound, iF_t c1, iF_f (Nat.not_lt.mpr c2), tn_nI (show jb < 2 ^ 31 by omega)]; done) | contradiction) (hP) hS dX5_bound_71
        ·
          refine lv_aload_n hx hb dX5_bound_31 rfl (lv_at hl 3 rfl) ?_
          refine g_get (v := .ref abo) hx hb hts ixX5_bound_X5 hown hK hP 0 rfl rfl 9 (by decide) lkX5_bound_25 rfl dX5_bound_32 ?_
          refine lv_iload_n hx hb dX5_bound_35 rfl (lv_at hl 4 rfl) ?_
          refine lv_iload hx hb dX5_bound_36 (lv_at hl 0 rfl) ?_
          refine n_ast hx hb hK hP hD hS 3 rfl (k := jb) (by omega) (by decide) dX5_bound_38 (fun H locs hP hD hS => ?_)
          have hP : va_P G.1 vwCl [(o, .inr (5, [.int ff, .int ftr, .ref aso, .ref asl, .ref ace, .int (nI M), .int (nI B), .ref ape, .ref aki, .ref abo, .int at_, .int rM, .int rB, .ref arp, .ref ark, .ref arb, .int fb, .int fto, .int (nI R), .ref awh, .ref awn, .ref awm, .ref awk, .ref amo, .ref amu])), (ape, aI G 25 P), (aki, aI G 4 K), (abo, aI G 4 (upd (dbp U jb k) jb (nI k))), (awh, aI G 8 W1), (awn, aI G 8 N1), (awm, aI G 8 M1), (awk, aI G 8 K1)] H := hP
          have hD : va_D A [(o, .inr (5, [.int ff, .int ftr, .ref aso, .ref asl, .ref ace, .int (nI M), .int (nI B), .ref ape, .ref aki, .ref abo, .int at_, .int rM, .int rB, .ref arp, .ref ark, .ref arb, .int fb, .int fto, .int (nI R), .ref awh, .ref awn, .ref awm, .ref awk, .ref amo, .ref amu])), (ape, aI G 25 P), (aki, aI G 4 K), (abo, aI G 4 (upd (dbp U jb k) jb (nI k))), (awh, aI G 8 W1), (awn, aI G 8 N1), (awm, aI G 8 M1), (awk, aI G 8 K1)] := hD
          have hP : va_P G.1 vwCl [(o, .inr (5, [.int ff, .int ftr, .ref aso, .ref asl, .ref ace, .int (nI M), .int (nI B), .ref ape, .ref aki, .ref abo, .int at_, .int rM, .int rB, .ref arp, .ref ark, .ref arb, .int fb, .int fto, .int (nI R), .ref awh, .ref awn, .ref awm, .ref awk, .ref amo, .ref amu])), (ape, aI G 25 P), (aki, aI G 4 K), (abo, aI G 4 (upd U jb (nI k))), (awh, aI G 8 W1), (awn, aI G 8 N1), (awm, aI G 8 M1), (awk, aI G 8 K1)] H := by have h0 := hP; rw [dbp_upd U jb (nI k) k] at h0; exact h0
          have hD : va_D A [(o, .inr (5, [.int ff, .int ftr, .ref aso, .ref asl, .ref ace, .int (nI M), .int (nI B), .ref ape, .ref aki, .ref abo, .int at_, .int rM, .int rB, .ref arp, .ref ark, .ref arb, .int fb, .int fto, .int (nI R), .ref awh, .ref awn, .ref awm, .ref awk, .ref amo, .ref amu])), (ape, aI G 25 P), (aki, aI G 4 K), (abo, aI G 4 (upd U jb (nI k))), (awh, aI G 8 W1), (awn, aI G 8 N1), (awm, aI G 8 M1), (awk, aI G 8 K1)] := by have h0 := hD; rw [dbp_upd U jb (nI k) k] at h0; exact h0
          refine lv_iload_n hx hb dX5_bound_39 rfl (lv_at hl 1 rfl) ?_
          refine lv_aload_n hx hb dX5_bound_40 rfl (lv_at hl 3 rfl) ?_
          refine rdV (As := []) (rest := [.int (setS (fun v => alls (-9) P M K (upd U jb (nI v)) W1 N1 M1 K1 R) k)]) (ci := 5) (q0 := 0) hE (kX5_areSo l G o ff ftr aso asl ace M B ape aki abo at_ rM rB arp ark arb fb fto R awh awn awm awk amo amu P K (upd U jb (nI k)) W1 N1 M1 K1 hM hB hR (hU_upd hM (by omega) hU) (by first | omega | assumption | exact hU _ (by omega) | exact hz _ (by omega) | exact hK3 _ (by omega)) hrd) (cwV 0 hts gX5_bound_X5_areSo rfl rfl rfl (by decide +kernel) ⟨Nat.le_of_ble_eq_true rfl, Nat.le_of_ble_eq_true rfl⟩) hP hK [0, 1, 2, 3, 4, 5, 6, 7] rfl rfl rfl rfl hl.1 rfl (Nat.le_of_ble_eq_true rfl) dX5_bound_41 ⟨Nat.zero_le _, Nat.zero_le _⟩ ?_
          refine W.eq (g2 := F0 m 44 ls [.int (bI (alls (-9) P M K (upd U jb (nI k)) W1 N1 M1 K1 R)), .int (setS (fun v => alls (-9) P M K (upd U jb (nI v)) W1 N1 M1 K1 R) k)]) rfl ?_
          refine bz_eq (tgt := 54) hx hb dX5_bound_44 (by decide) (fun c3 => ?_) (fun c3 => ?_)
          ·
            refine lv_iconst (v := nI 0) hx hb dX5_bound_54 (by decide) ?_
            refine lv_ior hx hb dX5_bound_55 ?_
            refine lv_istore_n (lv' := [(3, .int ((setS (fun v => alls (-9) P M K (upd U jb (nI v)) W1 N1 M1 K1 R) k) ||| (nI 0))), (4, .int (nI k)), (2, .int (U jb)), (0, .ref o), (1, .int (nI jb))]) hx hb dX5_bound_56 rfl hl (by decide) rfl (fun ls hl => ?_)
            refine lv_iinc (v := nI (k + 1)) (lv' := [(4, .int (nI (k + 1))), (3, .int ((setS (fun v => alls (-9) P M K (upd U jb (nI v)) W1 N1 M1 K1 R) k) ||| (nI 0))), (2, .int (U jb)), (0, .ref o), (1, .int (nI jb))]) hx hb dX5_bound_57 hl (k := 1) rfl (show nI k + Int32.ofInt 1 = nI (k + 1) from nI_add _ 1) (by decide) rfl (fun ls hl => ?_)
            refine lv_goto (tgt := 22) hx hb dX5_bound_60 (by decide) ?_
            have hl4 : lv_has ls 5 [(4, .int (nI (k + 1))), (3, .int (setS (fun v => alls (-9) P M K (upd U jb (nI v)) W1 N1 M1 K1 R) (k + 1))), (2, .int (U jb)), (0, .ref o), (1, .int (nI jb))] := by
              rw [show (setS (fun v => alls (-9) P M K (upd U jb (nI v)) W1 N1 M1 K1 R) (k + 1)) = ((setS (fun v => alls (-9) P M K (upd U jb (nI v)) W1 N1 M1 K1 R) k) ||| (nI 0)) from by first | rfl | simp only [setS, dbp, iF_t c1, iF_t c2, iF_f c3, tn_nI (show jb < 2 ^ 31 by omega)]]
              exact (lv_sub hl [0, 1, 2, 3, 4] rfl)
            have hP5 : va_P G.1 vwCl [(o, .inr (5, [.int ff, .int ftr, .ref aso, .ref asl, .ref ace, .int (nI M), .int (nI B), .ref ape, .ref aki, .ref abo, .int at_, .int rM, .int rB, .ref arp, .ref ark, .ref arb, .int fb, .int fto, .int (nI R), .ref awh, .ref awn, .ref awm, .ref awk, .ref amo, .ref amu])), (ape, aI G 25 P), (aki, aI G 4 K), (abo, aI G 4 (dbp U jb (k + 1))), (awh, aI G 8 W1), (awn, aI G 8 N1), (awm, aI G 8 M1), (awk, aI G 8 K1)] H := by
              rw [show (dbp U jb (k + 1)) = (upd U jb (nI k)) from by first | rfl | simp only [setS, dbp, iF_t c1, iF_t c2, iF_f c3, tn_nI (show jb < 2 ^ 31 by omega)]]
              exact hP
            have hD5 : va_D A [(o, .inr (5, [.int ff, .int ftr, .ref aso, .ref asl, .ref ace, .int (nI M), .int (nI B), .ref ape, .ref aki, .ref abo, .int at_, .int rM, .int rB, .ref arp, .ref ark, .ref arb, .int fb, .int fto, .int (nI R), .ref awh, .ref awn, .ref awm, .ref awk, .ref amo, .ref amu])), (ape, aI G 25 P), (aki, aI G 4 K), (abo, aI G 4 (dbp U jb (k + 1))), (awh, aI G 8 W1), (awn, aI G 8 N1), (awm, aI G 8 M1), (awk, aI G 8 K1)] := by
              rw [show (dbp U jb (k + 1)) = (upd U jb (nI k)) from by first | rfl | simp only [setS, dbp, iF_t c1, iF_t c2, iF_f c3, tn_nI (show jb < 2 ^ 31 by omega)]]
              exact hD
            exact ih1 (k + 1) H locs ls (by omega) (by omega) hP5 hD5 hS hl4
          ·
            refine lv_iconst (v := nI 1) hx hb dX5_bound_47 (by decide) ?_
            refine lv_iload hx hb dX5_bound_48 (lv_at hl 0 rfl) ?_
            refine lv_ishl hx hb dX5_bound_50 ?_
            refine lv_goto (tgt := 55) hx hb dX5_bound_51 (by decide) ?_
            refine lv_ior hx hb dX5_bound_55 ?_
            refine lv_istore_n (lv' := [(3, .int ((setS (fun v => alls (-9) P M K (upd U jb (nI v)) W1 N1 M1 K1 R) k) ||| ((nI 1) <<< (nI k &&& 31)))), (4, .int (nI k)), (2, .int (U jb)), (0, .ref o), (1, .int (nI jb))]) hx hb dX5_bound_56 rfl hl (by decide) rfl (fun ls hl => ?_)
            refine lv_iinc (v := nI (k + 1)) (lv' := [(4, .int (nI (k + 1))), (3, .int ((setS (fun v => alls (-9) P M K (upd U jb (nI v)) W1 N1 M1 K1 R) k) ||| ((nI 1) <<< (nI k &&& 31)))), (2, .int (U jb)), (0, .ref o), (1, .int (nI jb))]) hx hb dX5_bound_57 hl (k := 1) rfl (show nI k + Int32.ofInt 1 = nI (k + 1) from nI_add _ 1) (by decide) rfl (fun ls hl => ?_)
            refine lv_goto (tgt := 22) hx hb dX5_bound_60 (by decide) ?_
            have hl6 : lv_has ls 5 [(4, .int (nI (k + 1))), (3, .int (setS (fun v => alls (-9) P M K (upd U jb (nI v)) W1 N1 M1 K1 R) (k + 1))), (2, .int (U jb)), (0, .ref o), (1, .int (nI jb))] := by
              rw [show (setS (fun v => alls (-9) P M K (upd U jb (nI v)) W1 N1 M1 K1 R) (k + 1)) = ((setS (fun v => alls (-9) P M K (upd U jb (nI v)) W1 N1 M1 K1 R) k) ||| ((nI 1) <<< (nI k &&& 31))) from by first | rfl | simp only [setS, dbp, iF_t c1, iF_t c2, iF_t c3, tn_nI (show jb < 2 ^ 31 by omega)]]
              exact (lv_sub hl [0, 1, 2, 3, 4] rfl)
            have hP7 : va_P G.1 vwCl [(o, .inr (5, [.int ff, .int ftr, .ref aso, .ref asl, .ref ace, .int (nI M), .int (nI B), .ref ape, .ref aki, .ref abo, .int at_, .int rM, .int rB, .ref arp, .ref ark, .ref arb, .int fb, .int fto, .int (nI R), .ref awh, .ref awn, .ref awm, .ref awk, .ref amo, .ref amu])), (ape, aI G 25 P), (aki, aI G 4 K), (abo, aI G 4 (dbp U jb (k + 1))), (awh, aI G 8 W1), (awn, aI G 8 N1), (awm, aI G 8 M1), (awk, aI G 8 K1)] H := by
              rw [show (dbp U jb (k + 1)) = (upd U jb (nI k)) from by first | rfl | simp only [setS, dbp, iF_t c1, iF_t c2, iF_t c3, tn_nI (show jb < 2 ^ 31 by omega)]]
              exact hP
            have hD7 : va_D A [(o, .inr (5, [.int ff, .int ftr, .ref aso, .ref asl, .ref ace, .int (nI M), .int (nI B), .ref ape, .ref aki, .ref abo, .int at_, .int rM, .int rB, .ref arp, .ref ark, .ref arb, .int fb, .int fto, .int (nI R), .ref awh, .ref awn, .ref awm, .ref awk, .ref amo, .ref amu])), (ape, aI G 25 P), (aki, aI G 4 K), (abo, aI G 4 (dbp U jb (k + 1))), (awh, aI G 8 W1), (awn, aI G 8 N1), (awm, aI G 8 M1), (awk, aI G 8 K1)] := by
              rw [show (dbp U jb (k + 1)) = (upd U jb (nI k)) from by first | rfl | simp only [setS, dbp, iF_t c1, iF_t c2, iF_t c3, tn_nI (show jb < 2 ^ 31 by omega)]]
              exact hD
            exact ih1 (k + 1) H locs ls (by omega) (by omega) hP7 hD7 hS hl6
    have hl8 : lv_has ls 5 [(4, .int (nI 0)), (3, .int (setS (fun v => alls (-9) P M K (upd U jb (nI v)) W1 N1 M1 K1 R) 0)), (2, .int (U jb)), (0, .ref o), (1, .int (nI jb))] := by
      rw [show (setS (fun v => alls (-9) P M K (upd U jb (nI v)) W1 N1 M1 K1 R) 0) = (nI 0) from by first | rfl | simp only [setS, dbp, iF_t c1, tn_nI (show jb < 2 ^ 31 by omega)]]
      exact (lv_sub hl [0, 1, 2, 3, 4] rfl)
    have hP9 : va_P G.1 vwCl [(o, .inr (5, [.int ff, .int ftr, .ref aso, .ref asl, .ref ace, .int (nI M), .int (nI B), .ref ape, .ref aki, .ref abo, .int at_, .int rM, .int rB, .ref arp, .ref ark, .ref arb, .int fb, .int fto, .int (nI R), .ref awh, .ref awn, .ref awm, .ref awk, .ref amo, .ref amu])), (ape, aI G 25 P), (aki, aI G 4 K), (abo, aI G 4 (dbp U jb 0)), (awh, aI G 8 W1), (awn, aI G 8 N1), (awm, aI G 8 M1), (awk, aI G 8 K1)] s.heap := by
      rw [show (dbp U jb 0) = (U) from by first | rfl | simp only [setS, dbp, iF_t c1, tn_nI (show jb < 2 ^ 31 by omega)]]
      exact hP
    have hD9 : va_D A [(o, .inr (5, [.int ff, .int ftr, .ref aso, .ref asl, .ref ace, .int (nI M), .int (nI B), .ref ape, .ref aki, .ref abo, .int at_, .int rM, .int rB, .ref arp, .ref ark, .ref arb, .int fb, .int fto, .int (nI R), .ref awh, .ref awn, .ref awm, .ref awk, .ref amo, .ref amu])), (ape, aI G 25 P), (aki, aI G 4 K), (abo, aI G 4 (dbp U jb 0)), (awh, aI G 8 W1), (awn, aI G 8 N1), (awm, aI G 8 M1), (awk, aI G 8 K1)] := by
      rw [show (dbp U jb 0) = (U) from by first | rfl | simp only [setS, dbp, iF_t c1, tn_nI (show jb < 2 ^ 31 by omega)]]
      exact hD
    exact loop1 (M + 1) 0 s.heap [] ls (by omega) (by omega) hP9 hD9 hS hl8
  ·
    refine lv_iconst (v := (-1)) hx hb dX5_bound_8 (by decide) ?_
    exact hret _ _ _ _ _ (by first | with_reducible rfl | (simp only [s_bound, iF_f c1]; done) | contradiction) (hP) hS dX5_bound_9

theorem ixX5_kinds_X5 : ∀ w ∈ wsX50, w ∈ wsX5_kinds := fun _ h => List.mem_cons_of_mem _ (List.mem_append_right _ h)
theorem lkX5_kinds_22 : Cond.fieldLink RX5 22 (TX5 8).1 (TX5 8).2.1 (TX5 8).2.2.1 ∈ wsX5_kinds := List.mem_of_getElem? (i := 1) rfl
set_option maxHeartbeats 4000000 in
set_option maxRecDepth 100000 in
theorem kX5_kinds (l : Launch) (G : Gl) (o : Nat) (ff : Int32) (ftr : Int32) (aso : Nat) (asl : Nat) (ace : Nat) (M : Nat) (B : Nat) (ape : Nat) (aki : Nat) (abo : Nat) (at_ : Int32) (rM : Int32) (rB : Int32) (arp : Nat) (ark : Nat) (arb : Nat) (fb : Int32) (fto : Int32) (R : Nat) (awh : Nat) (awn : Nat) (awm : Nat) (awk : Nat) (amo : Nat) (amu : Nat) (P : Nat → Int32) (K : Nat → Int32) (U : Nat → Int32) (W1 : Nat → Int32) (N1 : Nat → Int32) (M1 : Nat → Int32) (K1 : Nat → Int32) (b : Int32) (hM : M ≤ 5) (hB : B ≤ 4) (hR : R ≤ 8) (hU : ∀ b, b < B → vp_in (U b) M) (hK3 : ∀ b, b < B → kd (K b)) (hrd : ∀ q, q < R → vp_in (W1 q) B ∧ vp_in (N1 q) (20 + 1) ∧ vp_in (M1 q) M) : Wt l G yX5_kinds wsX5_kinds ({ frames := 5, cells := 0, slots := 0, locals := 113 } : Room) [.ref o, .int b] [(o, .inr (5, [.int ff, .int ftr, .ref aso, .ref asl, .ref ace, .int (nI M), .int (nI B), .ref ape, .ref aki, .ref abo, .int at_, .int rM, .int rB, .ref arp, .ref ark, .ref arb, .int fb, .int fto, .int (nI R), .ref awh, .ref awn, .ref awm, .ref awk, .ref amo, .ref amu])), (ape, aI G 25 P), (aki, aI G 4 K), (abo, aI G 4 U), (awh, aI G 8 W1), (awn, aI G 8 N1), (awm, aI G 8 M1), (awk, aI G 8 K1)] [(o, .inr (5, [.int ff, .int ftr, .ref aso, .ref asl, .ref ace, .int (nI M), .int (nI B), .ref ape, .ref aki, .ref abo, .int at_, .int rM, .int rB, .ref arp, .ref ark, .ref arb, .int fb, .int fto, .int (nI R), .ref awh, .ref awn, .ref awm, .ref awk, .ref amo, .ref amu])), (ape, aI G 25 P), (aki, aI G 4 K), (abo, aI G 4 U), (awh, aI G 8 W1), (awn, aI G 8 N1), (awm, aI G 8 M1), (awk, aI G 8 K1)] (some (.int (s_kinds (-9) B M P K U W1 N1 M1 K1 R b))) := by
  refine Wt.ofI (cc := cX5_kinds) (maxL := 5) (by decide) rfl (Nat.le_of_ble_eq_true rfl) ?_
  intro p e s m below meth c Q A ls hE hP hK hD hS hl hret
  obtain ⟨hx, hb, hml, hown, hts⟩ := id hE
  have hl : lv_has ls 5 [(0, .ref o), (1, .int b)] := hl
  refine lv_aload_n hx hb dX5_kinds_0 rfl (lv_at hl 0 rfl) ?_
  refine lv_iload_n hx hb dX5_kinds_1 rfl (lv_at hl 1 rfl) ?_
  refine rdV (As := [.int b]) (rest := []) (ci := 5) (q0 := 0) hE (kX5_isBoy l G o ff ftr aso asl ace M B ape aki abo at_ rM rB arp ark arb fb fto R awh awn awm awk amo amu b hB) (cwV 1 hts gX5_kinds_X5_isBoy rfl rfl rfl (by decide +kernel) ⟨Nat.le_of_ble_eq_true rfl, Nat.le_of_ble_eq_true rfl⟩) hP hK [0] rfl rfl rfl rfl hl.1 rfl (Nat.le_of_ble_eq_true rfl) dX5_kinds_2 ⟨Nat.zero_le _, Nat.zero_le _⟩ ?_
  refine W.eq (g2 := F0 m 5 ls [.int (bI (vp_in b B))]) rfl ?_
  refine bz_ne (tgt := 10) hx hb dX5_kinds_5 (by decide) (fun c1 => ?_) (fun c1 => ?_)
  ·
    obtain ⟨jb, hjb, rfl⟩ := vp_in_of c1 (by omega)
    refine lv_aload_n hx hb dX5_kinds_10 rfl (lv_at hl 0 rfl) ?_
    refine g_get (v := .ref aki) hx hb hts ixX5_kinds_X5 hown hK hP 0 rfl rfl 8 (by decide) lkX5_kinds_22 rfl dX5_kinds_11 ?_
    refine lv_iload_n hx hb dX5_kinds_14 rfl (lv_at hl 1 rfl) ?_
    refine n_ald hx hb hK hP 2 rfl (k := jb) (by omega) (by decide) dX5_kinds_15 ?_
    refine lv_istore_n (lv' := [(2, .int (K jb)), (0, .ref o), (1, .int (nI jb))]) hx hb dX5_kinds_16 rfl hl (by decide) rfl (fun ls hl => ?_)
    refine lv_iconst (v := nI 0) hx hb dX5_kinds_17 (by decide) ?_
    refine lv_istore_n (lv' := [(3, .int (nI 0)), (2, .int (K jb)), (0, .ref o), (1, .int (nI jb))]) hx hb dX5_kinds_18 rfl hl (by decide) rfl (fun ls hl => ?_)
    refine lv_iconst (v := nI 0) hx hb dX5_kinds_19 (by decide) ?_
    refine lv_istore (lv' := [(4, .int (nI 0)), (3, .int (nI 0)), (2, .int (K jb)), (0, .ref o), (1, .int (nI jb))]) hx hb dX5_kinds_20 hl (by decide) rfl (fun ls hl => ?_)
    have loop1 : ∀ (d k : Nat) (H : Heap) (locs : List Loc) (ls : Array Slot), 3 < k + d → k ≤ 3 → va_P G.1 vwCl [(o, .inr (5, [.int ff, .int ftr, .ref aso, .ref asl, .ref ace, .int (nI M), .int (nI B), .ref ape, .ref aki, .ref abo, .int at_, .int rM, .int rB, .ref arp, .ref ark, .ref arb, .int fb, .int fto, .int (nI R), .ref awh, .ref awn, .ref awm, .ref awk, .ref amo, .ref amu])), (ape, aI G 25 P), (aki, aI G 4 (dbp K jb k)), (abo, aI G 4 U), (awh, aI G 8 W1), (awn, aI G 8 N1), (awm, aI G 8 M1), (awk, aI G 8 K1)] H → va_D A [(o, .inr (5, [.int ff, .int ftr, .ref aso, .ref asl, .ref ace, .int (nI M), .int (nI B), .ref ape, .ref aki, .ref abo, .int at_, .int rM, .int rB, .ref arp, .ref ark, .ref arb, .int fb, .int fto, .int (nI R), .ref awh, .ref awn, .ref awm, .ref awk, .ref amo, .ref amu])), (ape, aI G 25 P), (aki, aI G 4 (dbp K jb k)), (abo, aI G 4 U), (awh, aI G 8 W1), (awn, aI G 8 N1), (awm, aI G 8 M1), (awk, aI G 8 K1)] → va_S A s.heap H locs → lv_has ls 5 [(4, .int (nI k)), (3, .int (setS (fun v => alls (-9) P M (upd K jb (nI v)) U W1 N1 M1 K1 R) k)), (2, .int (K jb)), (0, .ref o), (1, .int (nI jb))] → W p l e ({ frames := 5, cells := 0, slots := 0, locals := 113 } : Room) s m ([.ref o, .int (nI jb)] : List Value).toArray below meth c H locs 0 0 Q (F0 m 22 ls []) := by
      intro d
      induction d with
      | zero =>
        intro k H locs ls h1 h2
        omega
      | succ d ih1 =>
        intro k H locs ls hdk hbk hP hD hS hl
        refine lv_iload hx hb dX5_kinds_22 (lv_at hl 0 rfl) ?_
        refine lv_iconst (v := nI 3) hx hb dX5_kinds_24 (by decide) ?_
        refine ic_ge (tgt := 60) hx hb (by omega) (by omega) dX5_kinds_25 (by decide) (fun c2 => ?_) (fun c2 => ?_)
        ·
          obtain rfl : 3 = k := by omega
          refine lv_aload_n hx hb dX5_kinds_60 rfl (lv_at hl 3 rfl) ?_
          refine g_get (v := .ref aki) hx hb hts ixX5_kinds_X5 hown hK hP 0 rfl rfl 8 (by decide) lkX5_kinds_22 rfl dX5_kinds_61 ?_
          refine lv_iload_n hx hb dX5_kinds_64 rfl (lv_at hl 4 rfl) ?_
          refine lv_iload_n hx hb dX5_kinds_65 rfl (lv_at hl 2 rfl) ?_
          refine n_ast hx hb hK hP hD hS 2 rfl (k := jb) (by omega) (by decide) dX5_kinds_66 (fun H locs hP hD hS => ?_)
          have hP : va_P G.1 vwCl [(o, .inr (5, [.int ff, .int ftr, .ref aso, .ref asl, .ref ace, .int (nI M), .int (nI B), .ref ape, .ref aki, .ref abo, .int at_, .int rM, .int rB, .ref arp, .ref ark, .ref arb, .int fb, .int fto, .int (nI R), .ref awh, .ref awn, .ref awm, .ref awk, .ref amo, .ref amu])), (ape, aI G 25 P), (aki, aI G 4 (upd (dbp K jb 3) jb (K jb))), (abo, aI G 4 U), (awh, aI G 8 W1), (awn, aI G 8 N1), (awm, aI G 8 M1), (awk, aI G 8 K1)] H := hP
          have hD : va_D A [(o, .inr (5, [.int ff, .int ftr, .ref aso, .ref asl, .ref ace, .int (nI M), .int (nI B), .ref ape, .ref aki, .ref abo, .int at_, .int rM, .int rB, .ref arp, .ref ark, .ref arb, .int fb, .int fto, .int (nI R), .ref awh, .ref awn, .ref awm, .ref awk, .ref amo, .ref amu])), (ape, aI G 25 P), (aki, aI G 4 (upd (dbp K jb 3) jb (K jb))), (abo, aI G 4 U), (awh, aI G 8 W1), (awn, aI G 8 N1), (awm, aI G 8 M1), (awk, aI G 8 K1)] := hD
          have hP : va_P G.1 vwCl [(o, .inr (5, [.int ff, .int ftr, .ref aso, .ref asl, .ref ace, .int (nI M), .int (nI B), .ref ape, .ref aki, .ref abo, .int at_, .int rM, .int rB, .ref arp, .ref ark, .ref arb, .int fb, .int fto, .int (nI R), .ref awh, .ref awn, .ref awm, .ref awk, .ref amo, .ref amu])), (ape, aI G 25 P), (aki, aI G 4 K), (abo, aI G 4 U), (awh, aI G 8 W1), (awn, aI G 8 N1), (awm, aI G 8 M1), (awk, aI G 8 K1)] H := by have h0 := hP; rw [dbp_end K jb 3] at h0; exact h0
          have hD : va_D A [(o, .inr (5, [.int ff, .int ftr, .ref aso, .ref asl, .ref ace, .int (nI M), .int (nI B), .ref ape, .ref aki, .ref abo, .int at_, .int rM, .int rB, .ref arp, .ref ark, .ref arb, .int fb, .int fto, .int (nI R), .ref awh, .ref awn, .ref awm, .ref awk, .ref amo, .ref amu])), (ape, aI G 25 P), (aki, aI G 4 K), (abo, aI G 4 U), (awh, aI G 8 W1), (awn, aI G 8 N1), (awm, aI G 8 M1), (awk, aI G 8 K1)] := by have h0 := hD; rw [dbp_end K jb 3] at h0; exact h0
          refine lv_iload_n hx hb dX5_kinds_67 rfl (lv_at hl 1 rfl) ?_
          exact hret _ _ _ _ _ (by first | with_reducible rfl | (simp only [s_kinds, iF_t c1, iF_f (Nat.not_lt.mpr c2), tn_nI (show jb < 2 ^ 31 by omega)]; done) | contradiction) (hP) hS dX5_kinds_68
        ·
          refine lv_aload_n hx hb dX5_kinds_28 rfl (lv_at hl 3 rfl) ?_
          refine g_get (v := .ref aki) hx hb hts ixX5_kinds_X5 hown hK hP 0 rfl rfl 8 (by decide) lkX5_kinds_22 rfl dX5_kinds_29 ?_
          refine lv_iload_n hx hb dX5_kinds_32 rfl (lv_at hl 4 rfl) ?_
          refine lv_iload hx hb dX5_kinds_33 (lv_at hl 0 rfl) ?_
          refine n_ast hx hb hK hP hD hS 2 rfl (k := jb) (by omega) (by decide) dX5_kinds_35 (fun H locs hP hD hS => ?_)
          have hP : va_P G.1 vwCl [(o, .inr (5, [.int ff, .int ftr, .ref aso, .ref asl, .ref ace, .int (nI M), .int (nI B), .ref ape, .ref aki, .ref abo, .int at_, .int rM, .int rB, .ref arp, .ref ark, .ref arb, .int fb, .int fto, .int (nI R), .ref awh, .ref awn, .ref awm, .ref awk, .ref amo, .ref amu])), (ape, aI G 25 P), (aki, aI G 4 (upd (dbp K jb k) jb (nI k))), (abo, aI G 4 U), (awh, aI G 8 W1), (awn, aI G 8 N1), (awm, aI G 8 M1), (awk, aI G 8 K1)] H := hP
          have hD : va_D A [(o, .inr (5, [.int ff, .int ftr, .ref aso, .ref asl, .ref ace, .int (nI M), .int (nI B), .ref ape, .ref aki, .ref abo, .int at_, .int rM, .int rB, .ref arp, .ref ark, .ref arb, .int fb, .int fto, .int (nI R), .ref awh, .ref awn, .ref awm, .ref awk, .ref amo, .ref amu])), (ape, aI G 25 P), (aki, aI G 4 (upd (dbp K jb k) jb (nI k))), (abo, aI G 4 U), (awh, aI G 8 W1), (awn, aI G 8 N1), (awm, aI G 8 M1), (awk, aI G 8 K1)] := hD
          have hP : va_P G.1 vwCl [(o, .inr (5, [.int ff, .int ftr, .ref aso, .ref asl, .ref ace, .int (nI M), .int (nI B), .ref ape, .ref aki, .ref abo, .int at_, .int rM, .int rB, .ref arp, .ref ark, .ref arb, .int fb, .int fto, .int (nI R), .ref awh, .ref awn, .ref awm, .ref awk, .ref amo, .ref amu])), (ape, aI G 25 P), (aki, aI G 4 (upd K jb (nI k))), (abo, aI G 4 U), (awh, aI G 8 W1), (awn, aI G 8 N1), (awm, aI G 8 M1), (awk, aI G 8 K1)] H := by have h0 := hP; rw [dbp_upd K jb (nI k) k] at h0; exact h0
          have hD : va_D A [(o, .inr (5, [.int ff, .int ftr, .ref aso, .ref asl, .ref ace, .int (nI M), .int (nI B), .ref ape, .ref aki, .ref abo, .int at_, .int rM, .int rB, .ref arp, .ref ark, .ref arb, .int fb, .int fto, .int (nI R), .ref awh, .ref awn, .ref awm, .ref awk, .ref amo, .ref amu])), (ape, aI G 25 P), (aki, aI G 4 (upd K jb (nI k))), (abo, aI G 4 U), (awh, aI G 8 W1), (awn, aI G 8 N1), (awm, aI G 8 M1), (awk, aI G 8 K1)] := by have h0 := hD; rw [dbp_upd K jb (nI k) k] at h0; exact h0
          refine lv_iload_n hx hb dX5_kinds_36 rfl (lv_at hl 1 rfl) ?_
          refine lv_aload_n hx hb dX5_kinds_37 rfl (lv_at hl 3 rfl) ?_
          refine rdV (As := []) (rest := [.int (setS (fun v => alls (-9) P M (upd K jb (nI v)) U W1 N1 M1 K1 R) k)]) (ci := 5) (q0 := 0) hE (kX5_areSo l G o ff ftr aso asl ace M B ape aki abo at_ rM rB arp ark arb fb fto R awh awn awm awk amo amu P (upd K jb (nI k)) U W1 N1 M1 K1 hM hB hR (by first | omega | assumption | exact hU _ (by omega) | exact hz _ (by omega) | exact hK3 _ (by omega)) (hK_upd (by omega) hK3) hrd) (cwV 0 hts gX5_kinds_X5_areSo rfl rfl rfl (by decide +kernel) ⟨Nat.le_of_ble_eq_true rfl, Nat.le_of_ble_eq_true rfl⟩) hP hK [0, 1, 2, 3, 4, 5, 6, 7] rfl rfl rfl rfl hl.1 rfl (Nat.le_of_ble_eq_true rfl) dX5_kinds_38 ⟨Nat.zero_le _, Nat.zero_le _⟩ ?_
          refine W.eq (g2 := F0 m 41 ls [.int (bI (alls (-9) P M (upd K jb (nI k)) U W1 N1 M1 K1 R)), .int (setS (fun v => alls (-9) P M (upd K jb (nI v)) U W1 N1 M1 K1 R) k)]) rfl ?_
          refine bz_eq (tgt := 51) hx hb dX5_kinds_41 (by decide) (fun c3 => ?_) (fun c3 => ?_)
          ·
            refine lv_iconst (v := nI 0) hx hb dX5_kinds_51 (by decide) ?_
            refine lv_ior hx hb dX5_kinds_52 ?_
            refine lv_istore_n (lv' := [(3, .int ((setS (fun v => alls (-9) P M (upd K jb (nI v)) U W1 N1 M1 K1 R) k) ||| (nI 0))), (4, .int (nI k)), (2, .int (K jb)), (0, .ref o), (1, .int (nI jb))]) hx hb dX5_kinds_53 rfl hl (by decide) rfl (fun ls hl => ?_)
            refine lv_iinc (v := nI (k + 1)) (lv' := [(4, .int (nI (k + 1))), (3, .int ((setS (fun v => alls (-9) P M (upd K jb (nI v)) U W1 N1 M1 K1 R) k) ||| (nI 0))), (2, .int (K jb)), (0, .ref o), (1, .int (nI jb))]) hx hb dX5_kinds_54 hl (k := 1) rfl (show nI k + Int32.ofInt 1 = nI (k + 1) from nI_add _ 1) (by decide) rfl (fun ls hl => ?_)
            refine lv_goto (tgt := 22) hx hb dX5_kinds_57 (by decide) ?_
            have hl4 : lv_has ls 5 [(4, .int (nI (k + 1))), (3, .int (setS (fun v => alls (-9) P M (upd K jb (nI v)) U W1 N1 M1 K1 R) (k + 1))), (2, .int (K jb)), (0, .ref o), (1, .int (nI jb))] := by
              rw [show (setS (fun v => alls (-9) P M (upd K jb (nI v)) U W1 N1 M1 K1 R) (k + 1)) = ((setS (fun v => alls (-9) P M (upd K jb (nI v)) U W1 N1 M1 K1 R) k) ||| (nI 0)) from by first | rfl | simp only [setS, dbp, iF_t c1, iF_t c2, iF_f c3, tn_nI (show jb < 2 ^ 31 by omega)]]
              exact (lv_sub hl [0, 1, 2, 3, 4] rfl)
            have hP5 : va_P G.1 vwCl [(o, .inr (5, [.int ff, .int ftr, .ref aso, .ref asl, .ref ace, .int (nI M), .int (nI B), .ref ape, .ref aki, .ref abo, .int at_, .int rM, .int rB, .ref arp, .ref ark, .ref arb, .int fb, .int fto, .int (nI R), .ref awh, .ref awn, .ref awm, .ref awk, .ref amo, .ref amu])), (ape, aI G 25 P), (aki, aI G 4 (dbp K jb (k + 1))), (abo, aI G 4 U), (awh, aI G 8 W1), (awn, aI G 8 N1), (awm, aI G 8 M1), (awk, aI G 8 K1)] H := by
              rw [show (dbp K jb (k + 1)) = (upd K jb (nI k)) from by first | rfl | simp only [setS, dbp, iF_t c1, iF_t c2, iF_f c3, tn_nI (show jb < 2 ^ 31 by omega)]]
              exact hP
            have hD5 : va_D A [(o, .inr (5, [.int ff, .int ftr, .ref aso, .ref asl, .ref ace, .int (nI M), .int (nI B), .ref ape, .ref aki, .ref abo, .int at_, .int rM, .int rB, .ref arp, .ref ark, .ref arb, .int fb, .int fto, .int (nI R), .ref awh, .ref awn, .ref awm, .ref awk, .ref amo, .ref amu])), (ape, aI G 25 P), (aki, aI G 4 (dbp K jb (k + 1))), (abo, aI G 4 U), (awh, aI G 8 W1), (awn, aI G 8 N1), (awm, aI G 8 M1), (awk, aI G 8 K1)] := by
              rw [show (dbp K jb (k + 1)) = (upd K jb (nI k)) from by first | rfl | simp only [setS, dbp, iF_t c1, iF_t c2, iF_f c3, tn_nI (show jb < 2 ^ 31 by omega)]]
              exact hD
            exact ih1 (k + 1) H locs ls (by omega) (by omega) hP5 hD5 hS hl4
          ·
            refine lv_iconst (v := nI 1) hx hb dX5_kinds_44 (by decide) ?_
            refine lv_iload hx hb dX5_kinds_45 (lv_at hl 0 rfl) ?_
            refine lv_ishl hx hb dX5_kinds_47 ?_
            refine lv_goto (tgt := 52) hx hb dX5_kinds_48 (by decide) ?_
            refine lv_ior hx hb dX5_kinds_52 ?_
            refine lv_istore_n (lv' := [(3, .int ((setS (fun v => alls (-9) P M (upd K jb (nI v)) U W1 N1 M1 K1 R) k) ||| ((nI 1) <<< (nI k &&& 31)))), (4, .int (nI k)), (2, .int (K jb)), (0, .ref o), (1, .int (nI jb))]) hx hb dX5_kinds_53 rfl hl (by decide) rfl (fun ls hl => ?_)
            refine lv_iinc (v := nI (k + 1)) (lv' := [(4, .int (nI (k + 1))), (3, .int ((setS (fun v => alls (-9) P M (upd K jb (nI v)) U W1 N1 M1 K1 R) k) ||| ((nI 1) <<< (nI k &&& 31)))), (2, .int (K jb)), (0, .ref o), (1, .int (nI jb))]) hx hb dX5_kinds_54 hl (k := 1) rfl (show nI k + Int32.ofInt 1 = nI (k + 1) from nI_add _ 1) (by decide) rfl (fun ls hl => ?_)
            refine lv_goto (tgt := 22) hx hb dX5_kinds_57 (by decide) ?_
            have hl6 : lv_has ls 5 [(4, .int (nI (k + 1))), (3, .int (setS (fun v => alls (-9) P M (upd K jb (nI v)) U W1 N1 M1 K1 R) (k + 1))), (2, .int (K jb)), (0, .ref o), (1, .int (nI jb))] := by
              rw [show (setS (fun v => alls (-9) P M (upd K jb (nI v)) U W1 N1 M1 K1 R) (k + 1)) = ((setS (fun v => alls (-9) P M (upd K jb (nI v)) U W1 N1 M1 K1 R) k) ||| ((nI 1) <<< (nI k &&& 31))) from by first | rfl | simp only [setS, dbp, iF_t c1, iF_t c2, iF_t c3, tn_nI (show jb < 2 ^ 31 by omega)]]
              exact (lv_sub hl [0, 1, 2, 3, 4] rfl)
            have hP7 : va_P G.1 vwCl [(o, .inr (5, [.int ff, .int ftr, .ref aso, .ref asl, .ref ace, .int (nI M), .int (nI B), .ref ape, .ref aki, .ref abo, .int at_, .int rM, .int rB, .ref arp, .ref ark, .ref arb, .int fb, .int fto, .int (nI R), .ref awh, .ref awn, .ref awm, .ref awk, .ref amo, .ref amu])), (ape, aI G 25 P), (aki, aI G 4 (dbp K jb (k + 1))), (abo, aI G 4 U), (awh, aI G 8 W1), (awn, aI G 8 N1), (awm, aI G 8 M1), (awk, aI G 8 K1)] H := by
              rw [show (dbp K jb (k + 1)) = (upd K jb (nI k)) from by first | rfl | simp only [setS, dbp, iF_t c1, iF_t c2, iF_t c3, tn_nI (show jb < 2 ^ 31 by omega)]]
              exact hP
            have hD7 : va_D A [(o, .inr (5, [.int ff, .int ftr, .ref aso, .ref asl, .ref ace, .int (nI M), .int (nI B), .ref ape, .ref aki, .ref abo, .int at_, .int rM, .int rB, .ref arp, .ref ark, .ref arb, .int fb, .int fto, .int (nI R), .ref awh, .ref awn, .ref awm, .ref awk, .ref amo, .ref amu])), (ape, aI G 25 P), (aki, aI G 4 (dbp K jb (k + 1))), (abo, aI G 4 U), (awh, aI G 8 W1), (awn, aI G 8 N1), (awm, aI G 8 M1), (awk, aI G 8 K1)] := by
              rw [show (dbp K jb (k + 1)) = (upd K jb (nI k)) from by first | rfl | simp only [setS, dbp, iF_t c1, iF_t c2, iF_t c3, tn_nI (show jb < 2 ^ 31 by omega)]]
              exact hD
            exact ih1 (k + 1) H locs ls (by omega) (by omega) hP7 hD7 hS hl6
    have hl8 : lv_has ls 5 [(4, .int (nI 0)), (3, .int (setS (fun v => alls (-9) P M (upd K jb (nI v)) U W1 N1 M1 K1 R) 0)), (2, .int (K jb)), (0, .ref o), (1, .int (nI jb))] := by
      rw [show (setS (fun v => alls (-9) P M (upd K jb (nI v)) U W1 N1 M1 K1 R) 0) = (nI 0) from by first | rfl | simp only [setS, dbp, iF_t c1, tn_nI (show jb < 2 ^ 31 by omega)]]
      exact (lv_sub hl [0, 1, 2, 3, 4] rfl)
    have hP9 : va_P G.1 vwCl [(o, .inr (5, [.int ff, .int ftr, .ref aso, .ref asl, .ref ace, .int (nI M), .int (nI B), .ref ape, .ref aki, .ref abo, .int at_, .int rM, .int rB, .ref arp, .ref ark, .ref arb, .int fb, .int fto, .int (nI R), .ref awh, .ref awn, .ref awm, .ref awk, .ref amo, .ref amu])), (ape, aI G 25 P), (aki, aI G 4 (dbp K jb 0)), (abo, aI G 4 U), (awh, aI G 8 W1), (awn, aI G 8 N1), (awm, aI G 8 M1), (awk, aI G 8 K1)] s.heap := by
      rw [show (dbp K jb 0) = (K) from by first | rfl | simp only [setS, dbp, iF_t c1, tn_nI (show jb < 2 ^ 31 by omega)]]
      exact hP
    have hD9 : va_D A [(o, .inr (5, [.int ff, .int ftr, .ref aso, .ref asl, .ref ace, .int (nI M), .int (nI B), .ref ape, .ref aki, .ref abo, .int at_, .int rM, .int rB, .ref arp, .ref ark, .ref arb, .int fb, .int fto, .int (nI R), .ref awh, .ref awn, .ref awm, .ref awk, .ref amo, .ref amu])), (ape, aI G 25 P), (aki, aI G 4 (dbp K jb 0)), (abo, aI G 4 U), (awh, aI G 8 W1), (awn, aI G 8 N1), (awm, aI G 8 M1), (awk, aI G 8 K1)] := by
      rw [show (dbp K jb 0) = (K) from by first | rfl | simp only [setS, dbp, iF_t c1, tn_nI (show jb < 2 ^ 31 by omega)]]
      exact hD
    exact loop1 (3 + 1) 0 s.heap [] ls (by omega) (by omega) hP9 hD9 hS hl8
  ·
    refine lv_iconst (v := (-1)) hx hb dX5_kinds_8 (by decide) ?_
    exact hret _ _ _ _ _ (by first | with_reducible rfl | (simp only [s_kinds, iF_f c1]; done) | contradiction) (hP) hS dX5_kinds_9
