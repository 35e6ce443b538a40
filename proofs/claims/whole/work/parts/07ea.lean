theorem ixX5_readTown_X5 : ∀ w ∈ wsX50, w ∈ wsX5_readTown := fun _ h => List.mem_cons_of_mem _ (List.mem_append_right _ h)
theorem lkX5_readTown_95 : Cond.fieldLink RX5 95 (TX5 12).1 (TX5 12).2.1 (TX5 12).2.2.1 ∈ wsX5_readTown := List.mem_of_getElem? (i := 1) rfl
theorem lkX5_readTown_92 : Cond.fieldLink RX5 92 (TX5 11).1 (TX5 11).2.1 (TX5 11).2.2.1 ∈ wsX5_readTown := List.mem_of_getElem? (i := 2) rfl
theorem lkX5_readTown_71 : Cond.fieldLink RX5 71 (TX5 10).1 (TX5 10).2.1 (TX5 10).2.2.1 ∈ wsX5_readTown := List.mem_of_getElem? (i := 3) rfl
set_option maxHeartbeats 4000000 in
set_option maxRecDepth 100000 in
theorem kX5_readTown (l : Launch) (G : Gl) (o : Nat) (ff : Int32) (ftr : Int32) (aso : Nat) (asl : Nat) (ace : Nat) (M : Nat) (B : Nat) (ape : Nat) (aki : Nat) (abo : Nat) (rM : Int32) (rB : Int32) (arp : Nat) (ark : Nat) (arb : Nat) (fb : Int32) (fto : Int32) (R : Nat) (awh : Nat) (awn : Nat) (awm : Nat) (awk : Nat) (amo : Nat) (amu : Nat) (CE : Nat → Int32) (RP : Nat → Int32) (RK : Nat → Int32) (RB : Nat → Int32) (f0 : Nat) (n : Nat) (M9 : Nat) (hMt : M9 = mT (fun t => CE (f0 + t)) n) (hz2 : f0 + n ≤ 240) : WtE l G yX5_readTown wsX5_readTown ({ frames := 3, cells := 0, slots := 0, locals := 68 } : Room) [.ref o, .int (nI (f0 + n))] [(o, .inr (5, [.int ff, .int ftr, .ref aso, .ref asl, .ref ace, .int (nI M), .int (nI B), .ref ape, .ref aki, .ref abo, .int (nI f0), .int rM, .int rB, .ref arp, .ref ark, .ref arb, .int fb, .int fto, .int (nI R), .ref awh, .ref awn, .ref awm, .ref awk, .ref amo, .ref amu])), (ace, aI G 240 CE), (arp, aI G 25 RP), (ark, aI G 4 RK), (arb, aI G 4 RB)] (fun rv9 w9 => ∃ (at9 : Nat) (rM9 : Int32) (rB9 : Int32) (RP9 : Nat → Int32) (RK9 : Nat → Int32) (RB9 : Nat → Int32), rv9 = some (.int (bI (okT (fun t => CE (f0 + t)) M9 n))) ∧ w9 = [(o, .inr (5, [.int ff, .int ftr, .ref aso, .ref asl, .ref ace, .int (nI M), .int (nI B), .ref ape, .ref aki, .ref abo, .int (nI at9), .int rM9, .int rB9, .ref arp, .ref ark, .ref arb, .int fb, .int fto, .int (nI R), .ref awh, .ref awn, .ref awm, .ref awk, .ref amo, .ref amu])), (ace, aI G 240 CE), (arp, aI G 25 RP9), (ark, aI G 4 RK9), (arb, aI G 4 RB9)] ∧ (okT (fun t => CE (f0 + t)) M9 n → rM9 = nI M9 ∧ rB9 = nI ((n - (2 + M9 * (M9 + 1))) / 3) ∧ RP9 = rtP RP CE M9 f0 M9 ∧ RK9 = rtK RK CE (f0 + (2 + M9 * (M9 + 1))) ((n - (2 + M9 * (M9 + 1))) / 3) ∧ RB9 = rtB RB CE (f0 + (2 + M9 * (M9 + 1))) ((n - (2 + M9 * (M9 + 1))) / 3)) ∧ (¬ okT (fun t => CE (f0 + t)) M9 n → at9 = f0 + ffP (fun t => CE (f0 + t)) M9 n)) := by
  refine WtE.ofZ (cc := cX5_readTown) (maxL := 3) (by decide) rfl (Nat.le_of_ble_eq_true rfl) ?_
  intro p e s m below meth c Q A ls hE hP hK hD hS hl hret
  obtain ⟨hx, hb, hml, hown, hts⟩ := id hE
  have hl : lv_has ls 3 [(0, .ref o), (1, .int (nI (f0 + n)))] := hl
  refine lv_aload_n hx hb dX5_readTown_0 rfl (lv_at hl 0 rfl) ?_
  refine lv_iconst (v := nI 0) hx hb dX5_readTown_1 (by decide) ?_
  refine g_put (v := (nI 0)) hx hb hts ixX5_readTown_X5 tyX5 tyX5_ok nmX5 hown hK hP hD hS 0 rfl rfl 12 (by decide) lkX5_readTown_95 rfl rfl (Nat.le_of_ble_eq_true rfl) dX5_readTown_2 (fun H locs hP hD hS => ?_)
  have hP : va_P G.1 vwCl [(o, .inr (5, [.int ff, .int ftr, .ref aso, .ref asl, .ref ace, .int (nI M), .int (nI B), .ref ape, .ref aki, .ref abo, .int (nI f0), .int rM, .int (nI 0), .ref arp, .ref ark, .ref arb, .int fb, .int fto, .int (nI R), .ref awh, .ref awn, .ref awm, .ref awk, .ref amo, .ref amu])), (ace, aI G 240 CE), (arp, aI G 25 RP), (ark, aI G 4 RK), (arb, aI G 4 RB)] H := hP
  have hD : va_D A [(o, .inr (5, [.int ff, .int ftr, .ref aso, .ref asl, .ref ace, .int (nI M), .int (nI B), .ref ape, .ref aki, .ref abo, .int (nI f0), .int rM, .int (nI 0), .ref arp, .ref ark, .ref arb, .int fb, .int fto, .int (nI R), .ref awh, .ref awn, .ref awm, .ref awk, .ref amo, .ref amu])), (ace, aI G 240 CE), (arp, aI G 25 RP), (ark, aI G 4 RK), (arb, aI G 4 RB)] := hD
  refine lv_aload_n hx hb dX5_readTown_5 rfl (lv_at hl 0 rfl) ?_
  refine lv_iload_n hx hb dX5_readTown_6 rfl (lv_at hl 1 rfl) ?_
  refine lv_bipush (v := nI 106) hx hb dX5_readTown_7 (by decide) ?_
  by_cases hs0 : f0 < f0 + n ∧ CE f0 = nI 106
  ·
    refine wtV (As := [.int (nI (f0 + n)), .int (nI 106)]) (rest := []) (ci := 5) (q0 := 0) hE (kX5_isSigny l G o ff ftr aso asl ace M B ape aki abo rM (nI 0) arp ark arb fb fto R awh awn awm awk amo amu CE f0 (f0 + n) 106 hs0.1 (by omega) hs0.2) (cwV 2 hts gX5_readTown_X5_isSign rfl rfl rfl (by decide +kernel) ⟨Nat.le_of_ble_eq_true rfl, Nat.le_of_ble_eq_true rfl⟩) hP hK hD hS [0, 1] (by decide) rfl (Eq.trans (b := [o, ace]) rfl rfl) (W1 := [(o, .inr (5, [.int ff, .int ftr, .ref aso, .ref asl, .ref ace, .int (nI M), .int (nI B), .ref ape, .ref aki, .ref abo, .int (nI (f0 + 1)), .int rM, .int (nI 0), .ref arp, .ref ark, .ref arb, .int fb, .int fto, .int (nI R), .ref awh, .ref awn, .ref awm, .ref awk, .ref amo, .ref amu])), (ace, aI G 240 CE), (arp, aI G 25 RP), (ark, aI G 4 RK), (arb, aI G 4 RB)]) rfl rfl rfl rfl hl.1 rfl (Nat.le_of_ble_eq_true rfl) dX5_readTown_9 ⟨Nat.zero_le _, Nat.zero_le _⟩ (fun H locs hP hD hS => ?_)
    refine W.eq (g2 := F0 m 12 ls [.int (bI True)]) rfl ?_
    refine bz_ne (tgt := 17) hx hb dX5_readTown_12 (by decide) (fun c1 => ?_) (fun c1 => ?_)
    ·
      refine lv_aload_n hx hb dX5_readTown_17 rfl (lv_at hl 0 rfl) ?_
      refine lv_aload_n hx hb dX5_readTown_18 rfl (lv_at hl 0 rfl) ?_
      refine lv_iload_n hx hb dX5_readTown_19 rfl (lv_at hl 1 rfl) ?_
      refine lv_iconst (v := nI 2) hx hb dX5_readTown_20 (by decide) ?_
      refine lv_iconst (v := nI 5) hx hb dX5_readTown_21 (by decide) ?_
      by_cases hs1 : f0 + 1 < f0 + n ∧ dgt (CE (f0 + 1)) 2 5
      ·
        obtain ⟨hdM, hM2, hM5⟩ := mT9 hs1 hMt
        refine wtV (As := [.int (nI (f0 + n)), .int (nI 2), .int (nI 5)]) (rest := [.ref o]) (ci := 5) (q0 := 0) hE (kX5_digity l G o ff ftr aso asl ace M B ape aki abo rM (nI 0) arp ark arb fb fto R awh awn awm awk amo amu CE (f0 + 1) (f0 + n) 2 5 hs1.1 (by omega) hs1.2 (by omega) (by omega)) (cwV 3 hts gX5_readTown_X5_digit rfl rfl rfl (by decide +kernel) ⟨Nat.le_of_ble_eq_true rfl, Nat.le_of_ble_eq_true rfl⟩) hP hK hD hS [0, 1] (by decide) rfl (Eq.trans (b := [o, ace]) rfl rfl) (W1 := [(o, .inr (5, [.int ff, .int ftr, .ref aso, .ref asl, .ref ace, .int (nI M), .int (nI B), .ref ape, .ref aki, .ref abo, .int (nI ((f0 + 1) + 1)), .int rM, .int (nI 0), .ref arp, .ref ark, .ref arb, .int fb, .int fto, .int (nI R), .ref awh, .ref awn, .ref awm, .ref awk, .ref amo, .ref amu])), (ace, aI G 240 CE), (arp, aI G 25 RP), (ark, aI G 4 RK), (arb, aI G 4 RB)]) rfl rfl rfl rfl hl.1 rfl (Nat.le_of_ble_eq_true rfl) dX5_readTown_22 ⟨Nat.zero_le _, Nat.zero_le _⟩ (fun H locs hP hD hS => ?_)
        refine W.eq (g2 := F0 m 25 ls [.int (nI (d9 (CE (f0 + 1)))), .ref o]) rfl ?_
        refine lv_tope (show nI (d9 (CE (f0 + 1))) = nI M9 from hdM) ?_
        refine g_put (v := (nI M9)) hx hb hts ixX5_readTown_X5 tyX5 tyX5_ok nmX5 hown hK hP hD hS 0 rfl rfl 11 (by decide) lkX5_readTown_92 rfl rfl (Nat.le_of_ble_eq_true rfl) dX5_readTown_25 (fun H locs hP hD hS => ?_)
        have hP : va_P G.1 vwCl [(o, .inr (5, [.int ff, .int ftr, .ref aso, .ref asl, .ref ace, .int (nI M), .int (nI B), .ref ape, .ref aki, .ref abo, .int (nI ((f0 + 1) + 1)), .int (nI M9), .int (nI 0), .ref arp, .ref ark, .ref arb, .int fb, .int fto, .int (nI R), .ref awh, .ref awn, .ref awm, .ref awk, .ref amo, .ref amu])), (ace, aI G 240 CE), (arp, aI G 25 RP), (ark, aI G 4 RK), (arb, aI G 4 RB)] H := hP
        have hD : va_D A [(o, .inr (5, [.int ff, .int ftr, .ref aso, .ref asl, .ref ace, .int (nI M), .int (nI B), .ref ape, .ref aki, .ref abo, .int (nI ((f0 + 1) + 1)), .int (nI M9), .int (nI 0), .ref arp, .ref ark, .ref arb, .int fb, .int fto, .int (nI R), .ref awh, .ref awn, .ref awm, .ref awk, .ref amo, .ref amu])), (ace, aI G 240 CE), (arp, aI G 25 RP), (ark, aI G 4 RK), (arb, aI G 4 RB)] := hD
        refine lv_aload_n hx hb dX5_readTown_28 rfl (lv_at hl 0 rfl) ?_
        refine g_get (v := .int (nI M9)) hx hb hts ixX5_readTown_X5 hown hK hP 0 rfl rfl 11 (by decide) lkX5_readTown_92 rfl dX5_readTown_29 ?_
        refine lv_bipush (v := (-9)) hx hb dX5_readTown_32 (by decide) ?_
        refine lv_icmp_ne (tgt := 39) hx hb dX5_readTown_34 (by decide) (fun c2 => ?_) (fun c2 => ?_)
        ·
          refine lv_iconst (v := nI 0) hx hb dX5_readTown_39 (by decide) ?_
          refine lv_istore_n (lv' := [(2, .int (nI 0)), (0, .ref o), (1, .int (nI (f0 + n)))]) hx hb dX5_readTown_40 rfl hl (by decide) rfl (fun ls hl => ?_)
          have loop1 : ∀ (d m0 : Nat) (H : Heap) (locs : List Loc) (ls : Array Slot), M9 < m0 + d → m0 ≤ M9 → (∀ q, q < 2 + m0 * (M9 + 1) → fitP (fun t => CE (f0 + t)) M9 q) → (2 + m0 * (M9 + 1) ≤ n) → va_P G.1 vwCl [(o, .inr (5, [.int ff, .int ftr, .ref aso, .ref asl, .ref ace, .int (nI M), .int (nI B), .ref ape, .ref aki, .ref abo, .int (nI (f0 + 2 + m0 * (M9 + 1))), .int (nI M9), .int (nI 0), .ref arp, .ref ark, .ref arb, .int fb, .int fto, .int (nI R), .ref awh, .ref awn, .ref awm, .ref awk, .ref amo, .ref amu])), (ace, aI G 240 CE), (arp, aI G 25 (rtP RP CE M9 f0 m0)), (ark, aI G 4 RK), (arb, aI G 4 RB)] H → va_D A [(o, .inr (5, [.int ff, .int ftr, .ref aso, .ref asl, .ref ace, .int (nI M), .int (nI B), .ref ape, .ref aki, .ref abo, .int (nI (f0 + 2 + m0 * (M9 + 1))), .int (nI M9), .int (nI 0), .ref arp, .ref ark, .ref arb, .int fb, .int fto, .int (nI R), .ref awh, .ref awn, .ref awm, .ref awk, .ref amo, .ref amu])), (ace, aI G 240 CE), (arp, aI G 25 (rtP RP CE M9 f0 m0)), (ark, aI G 4 RK), (arb, aI G 4 RB)] → va_S A s.heap H locs → lv_has ls 3 [(2, .int (nI m0)), (0, .ref o), (1, .int (nI (f0 + n)))] → W p l e ({ frames := 3, cells := 0, slots := 0, locals := 68 } : Room) s m ([.ref o, .int (nI (f0 + n))] : List Value).toArray below meth c H locs 0 0 Q (F0 m 41 ls []) := by
            intro d
            induction d with
            | zero =>
              intro m0 H locs ls h1 h2
              omega
            | succ d ih1 =>
              intro m0 H locs ls hdm0 hbm0 hall hle hP hD hS hl
              refine lv_iload_n hx hb dX5_readTown_41 rfl (lv_at hl 0 rfl) ?_
              refine lv_aload_n hx hb dX5_readTown_42 rfl (lv_at hl 1 rfl) ?_
              refine g_get (v := .int (nI M9)) hx hb hts ixX5_readTown_X5 hown hK hP 0 rfl rfl 11 (by decide) lkX5_readTown_92 rfl dX5_readTown_43 ?_
              refine ic_ge (tgt := 76) hx hb (by omega) (by omega) dX5_readTown_46 (by decide) (fun c3 => ?_) (fun c3 => ?_)
              ·
                obtain rfl : M9 = m0 := by omega
                have loop2 : ∀ (d c0 : Nat) (H : Heap) (locs : List Loc) (ls : Array Slot), 4 < c0 + d → c0 ≤ 4 → (∀ q, q < 2 + M9 * (M9 + 1) + 3 * c0 → fitP (fun t => CE (f0 + t)) M9 q) → (2 + M9 * (M9 + 1) + 3 * c0 ≤ n) → va_P G.1 vwCl [(o, .inr (5, [.int ff, .int ftr, .ref aso, .ref asl, .ref ace, .int (nI M), .int (nI B), .ref ape, .ref aki, .ref abo, .int (nI (f0 + (2 + M9 * (M9 + 1)) + 3 * c0)), .int (nI M9), .int (nI c0), .ref arp, .ref ark, .ref arb, .int fb, .int fto, .int (nI R), .ref awh, .ref awn, .ref awm, .ref awk, .ref amo, .ref amu])), (ace, aI G 240 CE), (arp, aI G 25 (rtP RP CE M9 f0 M9)), (ark, aI G 4 (rtK RK CE (f0 + (2 + M9 * (M9 + 1))) c0)), (arb, aI G 4 (rtB RB CE (f0 + (2 + M9 * (M9 + 1))) c0))] H → va_D A [(o, .inr (5, [.int ff, .int ftr, .ref aso, .ref asl, .ref ace, .int (nI M), .int (nI B), .ref ape, .ref aki, .ref abo, .int (nI (f0 + (2 + M9 * (M9 + 1)) + 3 * c0)), .int (nI M9), .int (nI c0), .ref arp, .ref ark, .ref arb, .int fb, .int fto, .int (nI R), .ref awh, .ref awn, .ref awm, .ref awk, .ref amo, .ref amu])), (ace, aI G 240 CE), (arp, aI G 25 (rtP RP CE M9 f0 M9)), (ark, aI G 4 (rtK RK CE (f0 + (2 + M9 * (M9 + 1))) c0)), (arb, aI G 4 (rtB RB CE (f0 + (2 + M9 * (M9 + 1))) c0))] → va_S A s.heap H locs → lv_has ls 3 [(0, .ref o), (1, .int (nI (f0 + n)))] → W p l e ({ frames := 3, cells := 0, slots := 0, locals := 68 } : Room) s m ([.ref o, .int (nI (f0 + n))] : List Value).toArray below meth c H locs 0 0 Q (F0 m 76 ls []) := by
                  intro d
                  induction d with
                  | zero =>
                    intro c0 H locs ls h1 h2
                    omega
                  | succ d ih2 =>
                    intro c0 H locs ls hdc0 hbc0 hall2 hle2 hP hD hS hl
                    refine lv_aload_n hx hb dX5_readTown_76 rfl (lv_at hl 0 rfl) ?_
                    refine g_get (v := .int (nI c0)) hx hb hts ixX5_readTown_X5 hown hK hP 0 rfl rfl 12 (by decide) lkX5_readTown_95 rfl dX5_readTown_77 ?_
                    refine iz_eq (tgt := 99) hx hb (by omega) dX5_readTown_80 (by decide) (fun c4 => ?_) (fun c4 => ?_)
                    ·
                      refine lv_aload_n hx hb dX5_readTown_99 rfl (lv_at hl 0 rfl) ?_
                      refine lv_iload_n hx hb dX5_readTown_100 rfl (lv_at hl 1 rfl) ?_
                      refine lv_bipush (v := nI 59) hx hb dX5_readTown_101 (by decide) ?_
                      by_cases hs3 : f0 + (2 + M9 * (M9 + 1)) + 3 * c0 < f0 + n ∧ CE (f0 + (2 + M9 * (M9 + 1)) + 3 * c0) = nI 59
                      ·
                        refine wtV (As := [.int (nI (f0 + n)), .int (nI 59)]) (rest := []) (ci := 5) (q0 := 0) hE (kX5_isSigny l G o ff ftr aso asl ace M B ape aki abo (nI M9) (nI c0) arp ark arb fb fto R awh awn awm awk amo amu CE (f0 + (2 + M9 * (M9 + 1)) + 3 * c0) (f0 + n) 59 hs3.1 (by omega) hs3.2) (cwV 2 hts gX5_readTown_X5_isSign rfl rfl rfl (by decide +kernel) ⟨Nat.le_of_ble_eq_true rfl, Nat.le_of_ble_eq_true rfl⟩) hP hK hD hS [0, 1] (by decide) rfl (Eq.trans (b := [o, ace]) rfl rfl) (W1 := [(o, .inr (5, [.int ff, .int ftr, .ref aso, .ref asl, .ref ace, .int (nI M), .int (nI B), .ref ape, .ref aki, .ref abo, .int (nI ((f0 + (2 + M9 * (M9 + 1)) + 3 * c0) + 1)), .int (nI M9), .int (nI c0), .ref arp, .ref ark, .ref arb, .int fb, .int fto, .int (nI R), .ref awh, .ref awn, .ref awm, .ref awk, .ref amo, .ref amu])), (ace, aI G 240 CE), (arp, aI G 25 (rtP RP CE M9 f0 M9)), (ark, aI G 4 (rtK RK CE (f0 + (2 + M9 * (M9 + 1))) c0)), (arb, aI G 4 (rtB RB CE (f0 + (2 + M9 * (M9 + 1))) c0))]) rfl rfl rfl rfl hl.1 rfl (Nat.le_of_ble_eq_true rfl) dX5_readTown_103 ⟨Nat.zero_le _, Nat.zero_le _⟩ (fun H locs hP hD hS => ?_)
                        refine W.eq (g2 := F0 m 106 ls [.int (bI True)]) rfl ?_
                        refine bz_eq (tgt := 117) hx hb dX5_readTown_106 (by decide) (fun c5 => ?_) (fun c5 => ?_)
                        ·
                          exact absurd True.intro c5
                        ·
                          refine lv_aload_n hx hb dX5_readTown_109 rfl (lv_at hl 0 rfl) ?_
                          refine lv_iload_n hx hb dX5_readTown_110 rfl (lv_at hl 1 rfl) ?_
                          have hc4 : c0 < 4 := by omega
                          by_cases hs4 : f0 + (2 + M9 * (M9 + 1)) + 3 * c0 + 1 < f0 + n ∧ ¬ CE (f0 + (2 + M9 * (M9 + 1)) + 3 * c0 + 1) < nI 98 ∧ ¬ nI 100 < CE (f0 + (2 + M9 * (M9 + 1)) + 3 * c0 + 1)
                          ·
                            by_cases hs5 : f0 + (2 + M9 * (M9 + 1)) + 3 * c0 + 1 + 1 < f0 + n ∧ dgt (CE (f0 + (2 + M9 * (M9 + 1)) + 3 * c0 + 1 + 1)) 0 (M9 - 1)
                            ·
                              refine wtV (As := [.int (nI (f0 + n))]) (rest := []) (ci := 5) (q0 := 0) hE (kX5_readBoyy l G o ff ftr aso asl ace M B ape aki abo arp ark arb fb fto R awh awn awm awk amo amu CE (rtK RK CE (f0 + (2 + M9 * (M9 + 1))) c0) (rtB RB CE (f0 + (2 + M9 * (M9 + 1))) c0) ((f0 + (2 + M9 * (M9 + 1)) + 3 * c0) + 1) (f0 + n) M9 c0 hM5 hM2 hc4 (by omega) hs5.1 hs4.2.1 hs4.2.2 hs5.2) (cwV 1 hts gX5_readTown_X5_readBoy rfl rfl rfl (by decide +kernel) ⟨Nat.le_of_ble_eq_true rfl, Nat.le_of_ble_eq_true rfl⟩) hP hK hD hS [0, 1, 3, 4] (by decide) rfl (Eq.trans (b := [o, ace, ark, arb]) rfl rfl) (W1 := [(o, .inr (5, [.int ff, .int ftr, .ref aso, .ref asl, .ref ace, .int (nI M), .int (nI B), .ref ape, .ref aki, .ref abo, .int (nI (((f0 + (2 + M9 * (M9 + 1)) + 3 * c0) + 1) + 2)), .int (nI M9), .int (nI (c0 + 1)), .ref arp, .ref ark, .ref arb, .int fb, .int fto, .int (nI R), .ref awh, .ref awn, .ref awm, .ref awk, .ref amo, .ref amu])), (ace, aI G 240 CE), (arp, aI G 25 (rtP RP CE M9 f0 M9)), (ark, aI G 4 (upd (rtK RK CE (f0 + (2 + M9 * (M9 + 1))) c0) c0 (nI (k9 (CE ((f0 + (2 + M9 * (M9 + 1)) + 3 * c0) + 1)))))), (arb, aI G 4 (upd (rtB RB CE (f0 + (2 + M9 * (M9 + 1))) c0) c0 (nI (d9 (CE (((f0 + (2 + M9 * (M9 + 1)) + 3 * c0) + 1) + 1))))))]) rfl rfl rfl rfl hl.1 rfl (Nat.le_of_ble_eq_true rfl) dX5_readTown_111 ⟨Nat.zero_le _, Nat.zero_le _⟩ (fun H locs hP hD hS => ?_)
                              refine W.eq (g2 := F0 m 114 ls [.int (bI True)]) rfl ?_
                              refine bz_ne (tgt := 76) hx hb dX5_readTown_114 (by decide) (fun c6 => ?_) (fun c6 => ?_)
                              ·
                                have hP7 : va_P G.1 vwCl [(o, .inr (5, [.int ff, .int ftr, .ref aso, .ref asl, .ref ace, .int (nI M), .int (nI B), .ref ape, .ref aki, .ref abo, .int (nI (f0 + (2 + M9 * (M9 + 1)) + 3 * (c0 + 1))), .int (nI M9), .int (nI (c0 + 1)), .ref arp, .ref ark, .ref arb, .int fb, .int fto, .int (nI R), .ref awh, .ref awn, .ref awm, .ref awk, .ref amo, .ref amu])), (ace, aI G 240 CE), (arp, aI G 25 (rtP RP CE M9 f0 M9)), (ark, aI G 4 (rtK RK CE (f0 + (2 + M9 * (M9 + 1))) (c0 + 1))), (arb, aI G 4 (rtB RB CE (f0 + (2 + M9 * (M9 + 1))) (c0 + 1)))] H := by
                                  rw [show (nI (f0 + (2 + M9 * (M9 + 1)) + 3 * (c0 + 1))) = (nI (((f0 + (2 + M9 * (M9 + 1)) + 3 * c0) + 1) + 2)) from congrArg nI (by omega)]
                                  rw [show (rtK RK CE (f0 + (2 + M9 * (M9 + 1))) (c0 + 1)) = (upd (rtK RK CE (f0 + (2 + M9 * (M9 + 1))) c0) c0 (nI (k9 (CE ((f0 + (2 + M9 * (M9 + 1)) + 3 * c0) + 1))))) from rfl]
                                  rw [show (rtB RB CE (f0 + (2 + M9 * (M9 + 1))) (c0 + 1)) = (upd (rtB RB CE (f0 + (2 + M9 * (M9 + 1))) c0) c0 (nI (d9 (CE (((f0 + (2 + M9 * (M9 + 1)) + 3 * c0) + 1) + 1))))) from rfl]
                                  exact hP
                                have hD7 : va_D A [(o, .inr (5, [.int ff, .int ftr, .ref aso, .ref asl, .ref ace, .int (nI M), .int (nI B), .ref ape, .ref aki, .ref abo, .int (nI (f0 + (2 + M9 * (M9 + 1)) + 3 * (c0 + 1))), .int (nI M9), .int (nI (c0 + 1)), .ref arp, .ref ark, .ref arb, .int fb, .int fto, .int (nI R), .ref awh, .ref awn, .ref awm, .ref awk, .ref amo, .ref amu])), (ace, aI G 240 CE), (arp, aI G 25 (rtP RP CE M9 f0 M9)), (ark, aI G 4 (rtK RK CE (f0 + (2 + M9 * (M9 + 1))) (c0 + 1))), (arb, aI G 4 (rtB RB CE (f0 + (2 + M9 * (M9 + 1))) (c0 + 1)))] := by
                                  rw [show (nI (f0 + (2 + M9 * (M9 + 1)) + 3 * (c0 + 1))) = (nI (((f0 + (2 + M9 * (M9 + 1)) + 3 * c0) + 1) + 2)) from congrArg nI (by omega)]
                                  rw [show (rtK RK CE (f0 + (2 + M9 * (M9 + 1))) (c0 + 1)) = (upd (rtK RK CE (f0 + (2 + M9 * (M9 + 1))) c0) c0 (nI (k9 (CE ((f0 + (2 + M9 * (M9 + 1)) + 3 * c0) + 1))))) from rfl]
                                  rw [show (rtB RB CE (f0 + (2 + M9 * (M9 + 1))) (c0 + 1)) = (upd (rtB RB CE (f0 + (2 + M9 * (M9 + 1))) c0) c0 (nI (d9 (CE (((f0 + (2 + M9 * (M9 + 1)) + 3 * c0) + 1) + 1))))) from rfl]
                                  exact hD
                                exact ih2 (c0 + 1) H locs ls (by omega) (by omega) (boyS hM2 hM5 hc4 hall2 hs3.2 hs4.2 hs5.2) (by have := hs5.1; omega) hP7 hD7 hS (lv_sub hl [0, 1] rfl)
                              ·
                                exact absurd True.intro c6
                            ·
                              have hff := ff6 hM2 hM5 hc4 hall2 hs3 hs4 hs5
                              refine wtV (As := [.int (nI (f0 + n))]) (rest := []) (ci := 5) (q0 := 0) hE (kX5_readBoyn2 l G o ff ftr aso asl ace M B ape aki abo arp ark arb fb fto R awh awn awm awk amo amu CE (rtK RK CE (f0 + (2 + M9 * (M9 + 1))) c0) (rtB RB CE (f0 + (2 + M9 * (M9 + 1))) c0) ((f0 + (2 + M9 * (M9 + 1)) + 3 * c0) + 1) (f0 + n) M9 c0 hM5 hM2 hc4 (by omega) hs4.1 hs4.2.1 hs4.2.2 hs5) (cwV 1 hts gX5_readTown_X5_readBoy rfl rfl rfl (by decide +kernel) ⟨Nat.le_of_ble_eq_true rfl, Nat.le_of_ble_eq_true rfl⟩) hP hK hD hS [0, 1, 3, 4] (by decide) rfl (Eq.trans (b := [o, ace, ark, arb]) rfl rfl) (W1 := [(o, .inr (5, [.int ff, .int ftr, .ref aso, .ref asl, .ref ace, .int (nI M), .int (nI B), .ref ape, .ref aki, .ref abo, .int (nI (((f0 + (2 + M9 * (M9 + 1)) + 3 * c0) + 1) + 1)), .int (nI M9), .int (nI (c0 + 1)), .ref arp, .ref ark, .ref arb, .int fb, .int fto, .int (nI R), .ref awh, .ref awn, .ref awm, .ref awk, .ref amo, .ref amu])), (ace, aI G 240 CE), (arp, aI G 25 (rtP RP CE M9 f0 M9)), (ark, aI G 4 (upd (rtK RK CE (f0 + (2 + M9 * (M9 + 1))) c0) c0 (nI (k9 (CE ((f0 + (2 + M9 * (M9 + 1)) + 3 * c0) + 1)))))), (arb, aI G 4 (upd (rtB RB CE (f0 + (2 + M9 * (M9 + 1))) c0) c0 (-9)))]) rfl rfl rfl rfl hl.1 rfl (Nat.le_of_ble_eq_true rfl) dX5_readTown_111 ⟨Nat.zero_le _, Nat.zero_le _⟩ (fun H locs hP hD hS => ?_)
                              refine W.eq (g2 := F0 m 114 ls [.int (bI False)]) rfl ?_
                              refine bz_ne (tgt := 76) hx hb dX5_readTown_114 (by decide) (fun c8 => ?_) (fun c8 => ?_)
                              ·
                                exact c8.elim
                              ·
                                refine lv_iconst (v := nI 0) hx hb dX5_readTown_117 (by decide) ?_
                                exact hret _ _ _ _ _ _ [(o, .inr (5, [.int ff, .int ftr, .ref aso, .ref asl, .ref ace, .int (nI M), .int (nI B), .ref ape, .ref aki, .ref abo, .int (nI (((f0 + (2 + M9 * (M9 + 1)) + 3 * c0) + 1) + 1)), .int (nI M9), .int (nI (c0 + 1)), .ref arp, .ref ark, .ref arb, .int fb, .int fto, .int (nI R), .ref awh, .ref awn, .ref awm, .ref awk, .ref amo, .ref amu])), (ace, aI G 240 CE), (arp, aI G 25 (rtP RP CE M9 f0 M9)), (ark, aI G 4 (upd (rtK RK CE (f0 + (2 + M9 * (M9 + 1))) c0) c0 (nI (k9 (CE ((f0 + (2 + M9 * (M9 + 1)) + 3 * c0) + 1)))))), (arb, aI G 4 (upd (rtB RB CE (f0 + (2 + M9 * (M9 + 1))) c0) c0 (-9)))] ((bI_f hff.2).symm) ⟨((f0 + (2 + M9 * (M9 + 1)) + 3 * c0) + 1) + 1, nI M9, nI (c0 + 1), rtP RP CE M9 f0 M9, upd (rtK RK CE (f0 + (2 + M9 * (M9 + 1))) c0) c0 (nI (k9 (CE ((f0 + (2 + M9 * (M9 + 1)) + 3 * c0) + 1)))), upd (rtB RB CE (f0 + (2 + M9 * (M9 + 1))) c0) c0 (-9), rfl, rfl, (fun h => absurd h hff.2), (fun _ => by have := hff.1; omega)⟩ rfl hP hS dX5_readTown_118
                          ·
                            have hff := ff5 hM2 hM5 hc4 hall2 hs3 hs4
                            refine wtV (As := [.int (nI (f0 + n))]) (rest := []) (ci := 5) (q0 := 0) hE (kX5_readBoyn1 l G o ff ftr aso asl ace M B ape aki abo arp ark arb fb fto R awh awn awm awk amo amu CE (rtK RK CE (f0 + (2 + M9 * (M9 + 1))) c0) (rtB RB CE (f0 + (2 + M9 * (M9 + 1))) c0) ((f0 + (2 + M9 * (M9 + 1)) + 3 * c0) + 1) (f0 + n) M9 c0 hM5 hM2 hc4 (by omega) (by omega) hs4) (cwV 1 hts gX5_readTown_X5_readBoy rfl rfl rfl (by decide +kernel) ⟨Nat.le_of_ble_eq_true rfl, Nat.le_of_ble_eq_true rfl⟩) hP hK hD hS [0, 1, 3, 4] (by decide) rfl (Eq.trans (b := [o, ace, ark, arb]) rfl rfl) (W1 := [(o, .inr (5, [.int ff, .int ftr, .ref aso, .ref asl, .ref ace, .int (nI M), .int (nI B), .ref ape, .ref aki, .ref abo, .int (nI ((f0 + (2 + M9 * (M9 + 1)) + 3 * c0) + 1)), .int (nI M9), .int (nI c0), .ref arp, .ref ark, .ref arb, .int fb, .int fto, .int (nI R), .ref awh, .ref awn, .ref awm, .ref awk, .ref amo, .ref amu])), (ace, aI G 240 CE), (arp, aI G 25 (rtP RP CE M9 f0 M9)), (ark, aI G 4 (upd (rtK RK CE (f0 + (2 + M9 * (M9 + 1))) c0) c0 (-9))), (arb, aI G 4 (rtB RB CE (f0 + (2 + M9 * (M9 + 1))) c0))]) rfl rfl rfl rfl hl.1 rfl (Nat.le_of_ble_eq_true rfl) dX5_readTown_111 ⟨Nat.zero_le _, Nat.zero_le _⟩ (fun H locs hP hD hS => ?_)
                            refine W.eq (g2 := F0 m 114 ls [.int (bI False)]) rfl ?_
                            refine bz_ne (tgt := 76) hx hb dX5_readTown_114 (by decide) (fun c9 => ?_) (fun c9 => ?_)
                            ·
                              exact c9.elim
                            ·
                              refine lv_iconst (v := nI 0) hx hb dX5_readTown_117 (by decide) ?_
                              exact hret _ _ _ _ _ _ [(o, .inr (5, [.int ff, .int ftr, .ref aso, .ref asl, .ref ace, .int (nI M), .int (nI B), .ref ape, .ref aki, .ref abo, .int (nI ((f0 + (2 + M9 * (M9 + 1)) + 3 * c0) + 1)), .int (nI M9), .int (nI c0), .ref arp, .ref ark, .ref arb, .int fb, .int fto, .int (nI R), .ref awh, .ref awn, .ref awm, .ref awk, .ref amo, .ref amu])), (ace, aI G 240 CE), (arp, aI G 25 (rtP RP CE M9 f0 M9)), (ark, aI G 4 (upd (rtK RK CE (f0 + (2 + M9 * (M9 + 1))) c0) c0 (-9))), (arb, aI G 4 (rtB RB CE (f0 + (2 + M9 * (M9 + 1))) c0))] ((bI_f hff.2).symm) ⟨(f0 + (2 + M9 * (M9 + 1)) + 3 * c0) + 1, nI M9, nI c0, rtP RP CE M9 f0 M9, upd (rtK RK CE (f0 + (2 + M9 * (M9 + 1))) c0) c0 (-9), (rtB RB CE (f0 + (2 + M9 * (M9 + 1))) c0), rfl, rfl, (fun h => absurd h hff.2), (fun _ => by have := hff.1; omega)⟩ rfl hP hS dX5_readTown_118
                      ·
                        have hff := ff4 hM2 hM5 hall2 hle2 (by omega) hs3
                        refine wtV (As := [.int (nI (f0 + n)), .int (nI 59)]) (rest := []) (ci := 5) (q0 := 0) hE (kX5_isSignn l G o ff ftr aso asl ace M B ape aki abo (nI M9) (nI c0) arp ark arb fb fto R awh awn awm awk amo amu CE (f0 + (2 + M9 * (M9 + 1)) + 3 * c0) (f0 + n) 59 hs3 (by omega) (by omega)) (cwV 2 hts gX5_readTown_X5_isSign rfl rfl rfl (by decide +kernel) ⟨Nat.le_of_ble_eq_true rfl, Nat.le_of_ble_eq_true rfl⟩) hP hK hD hS [0, 1] (by decide) rfl (Eq.trans (b := [o, ace]) rfl rfl) (W1 := [(o, .inr (5, [.int ff, .int ftr, .ref aso, .ref asl, .ref ace, .int (nI M), .int (nI B), .ref ape, .ref aki, .ref abo, .int (nI (f0 + (2 + M9 * (M9 + 1)) + 3 * c0)), .int (nI M9), .int (nI c0), .ref arp, .ref ark, .ref arb, .int fb, .int fto, .int (nI R), .ref awh, .ref awn, .ref awm, .ref awk, .ref amo, .ref amu])), (ace, aI G 240 CE), (arp, aI G 25 (rtP RP CE M9 f0 M9)), (ark, aI G 4 (rtK RK CE (f0 + (2 + M9 * (M9 + 1))) c0)), (arb, aI G 4 (rtB RB CE (f0 + (2 + M9 * (M9 + 1))) c0))]) rfl rfl rfl rfl hl.1 rfl (Nat.le_of_ble_eq_true rfl) dX5_readTown_103 ⟨Nat.zero_le _, Nat.zero_le _⟩ (fun H locs hP hD hS => ?_)
                        refine W.eq (g2 := F0 m 106 ls [.int (bI False)]) rfl ?_
                        refine bz_eq (tgt := 117) hx hb dX5_readTown_106 (by decide) (fun c10 => ?_) (fun c10 => ?_)
                        ·
                          refine lv_iconst (v := nI 0) hx hb dX5_readTown_117 (by decide) ?_
                          exact hret _ _ _ _ _ _ [(o, .inr (5, [.int ff, .int ftr, .ref aso, .ref asl, .ref ace, .int (nI M), .int (nI B), .ref ape, .ref aki, .ref abo, .int (nI (f0 + (2 + M9 * (M9 + 1)) + 3 * c0)), .int (nI M9), .int (nI c0), .ref arp, .ref ark, .ref arb, .int fb, .int fto, .int (nI R), .ref awh, .ref awn, .ref awm, .ref awk, .ref amo, .ref amu])), (ace, aI G 240 CE), (arp, aI G 25 (rtP RP CE M9 f0 M9)), (ark, aI G 4 (rtK RK CE (f0 + (2 + M9 * (M9 + 1))) c0)), (arb, aI G 4 (rtB RB CE (f0 + (2 + M9 * (M9 + 1))) c0))] ((bI_f hff.2).symm) ⟨f0 + (2 + M9 * (M9 + 1)) + 3 * c0, nI M9, nI c0, rtP RP CE M9 f0 M9, rtK RK CE (f0 + (2 + M9 * (M9 + 1))) c0, rtB RB CE (f0 + (2 + M9 * (M9 + 1))) c0, rfl, rfl, (fun h => absurd h hff.2), (fun _ => by have := hff.1; omega)⟩ rfl hP hS dX5_readTown_118
                        ·
                          exact c10.elim
                    ·
                      refine lv_aload_n hx hb dX5_readTown_83 rfl (lv_at hl 0 rfl) ?_
                      refine g_get (v := .int (nI c0)) hx hb hts ixX5_readTown_X5 hown hK hP 0 rfl rfl 12 (by decide) lkX5_readTown_95 rfl dX5_readTown_84 ?_
                      refine lv_iconst (v := nI 4) hx hb dX5_readTown_87 (by decide) ?_
                      refine ic_ge (tgt := 119) hx hb (by omega) (by omega) dX5_readTown_88 (by decide) (fun c11 => ?_) (fun c11 => ?_)
                      ·
                        refine lv_aload_n hx hb dX5_readTown_119 rfl (lv_at hl 0 rfl) ?_
                        refine g_get (v := .int (nI (f0 + (2 + M9 * (M9 + 1)) + 3 * c0))) hx hb hts ixX5_readTown_X5 hown hK hP 0 rfl rfl 10 (by decide) lkX5_readTown_71 rfl dX5_readTown_120 ?_
                        refine lv_iload_n hx hb dX5_readTown_123 rfl (lv_at hl 1 rfl) ?_
                        refine ic_ne (tgt := 131) hx hb (by omega) (by omega) dX5_readTown_124 (by decide) (fun c12 => ?_) (fun c12 => ?_)
                        ·
                          have hff := ff7 hM2 hM5 (by omega) hall2 hle2 c12
                          refine lv_iconst (v := nI 0) hx hb dX5_readTown_131 (by decide) ?_
                          exact hret _ _ _ _ _ _ [(o, .inr (5, [.int ff, .int ftr, .ref aso, .ref asl, .ref ace, .int (nI M), .int (nI B), .ref ape, .ref aki, .ref abo, .int (nI (f0 + (2 + M9 * (M9 + 1)) + 3 * c0)), .int (nI M9), .int (nI c0), .ref arp, .ref ark, .ref arb, .int fb, .int fto, .int (nI R), .ref awh, .ref awn, .ref awm, .ref awk, .ref amo, .ref amu])), (ace, aI G 240 CE), (arp, aI G 25 (rtP RP CE M9 f0 M9)), (ark, aI G 4 (rtK RK CE (f0 + (2 + M9 * (M9 + 1))) c0)), (arb, aI G 4 (rtB RB CE (f0 + (2 + M9 * (M9 + 1))) c0))] ((bI_f hff.2).symm) ⟨f0 + (2 + M9 * (M9 + 1)) + 3 * c0, nI M9, nI c0, rtP RP CE M9 f0 M9, rtK RK CE (f0 + (2 + M9 * (M9 + 1))) c0, rtB RB CE (f0 + (2 + M9 * (M9 + 1))) c0, rfl, rfl, (fun h => absurd h hff.2), (fun _ => by have := hff.1; omega)⟩ rfl hP hS dX5_readTown_132
                        ·
                          have hok := ok7 hall2 (by omega) c12
                          refine lv_iconst (v := nI 1) hx hb dX5_readTown_127 (by decide) ?_
                          refine lv_goto (tgt := 132) hx hb dX5_readTown_128 (by decide) ?_
                          exact hret _ _ _ _ _ _ [(o, .inr (5, [.int ff, .int ftr, .ref aso, .ref asl, .ref ace, .int (nI M), .int (nI B), .ref ape, .ref aki, .ref abo, .int (nI (f0 + (2 + M9 * (M9 + 1)) + 3 * c0)), .int (nI M9), .int (nI c0), .ref arp, .ref ark, .ref arb, .int fb, .int fto, .int (nI R), .ref awh, .ref awn, .ref awm, .ref awk, .ref amo, .ref amu])), (ace, aI G 240 CE), (arp, aI G 25 (rtP RP CE M9 f0 M9)), (ark, aI G 4 (rtK RK CE (f0 + (2 + M9 * (M9 + 1))) c0)), (arb, aI G 4 (rtB RB CE (f0 + (2 + M9 * (M9 + 1))) c0))] ((bI_t hok.1).symm) ⟨f0 + (2 + M9 * (M9 + 1)) + 3 * c0, nI M9, nI c0, rtP RP CE M9 f0 M9, rtK RK CE (f0 + (2 + M9 * (M9 + 1))) c0, rtB RB CE (f0 + (2 + M9 * (M9 + 1))) c0, rfl, rfl, (fun _ => by rw [hok.2]; exact ⟨rfl, rfl, rfl, rfl, rfl⟩), (fun h => absurd hok.1 h)⟩ rfl hP hS dX5_readTown_132
                      ·
                        refine lv_aload_n hx hb dX5_readTown_91 rfl (lv_at hl 0 rfl) ?_
                        refine g_get (v := .int (nI (f0 + (2 + M9 * (M9 + 1)) + 3 * c0))) hx hb hts ixX5_readTown_X5 hown hK hP 0 rfl rfl 10 (by decide) lkX5_readTown_71 rfl dX5_readTown_92 ?_
                        refine lv_iload_n hx hb dX5_readTown_95 rfl (lv_at hl 1 rfl) ?_
                        refine ic_ge (tgt := 119) hx hb (by omega) (by omega) dX5_readTown_96 (by decide) (fun c13 => ?_) (fun c13 => ?_)
                        ·
                          refine lv_aload_n hx hb dX5_readTown_119 rfl (lv_at hl 0 rfl) ?_
                          refine g_get (v := .int (nI (f0 + (2 + M9 * (M9 + 1)) + 3 * c0))) hx hb hts ixX5_readTown_X5 hown hK hP 0 rfl rfl 10 (by decide) lkX5_readTown_71 rfl dX5_readTown_120 ?_
                          refine lv_iload_n hx hb dX5_readTown_123 rfl (lv_at hl 1 rfl) ?_
                          refine ic_ne (tgt := 131) hx hb (by omega) (by omega) dX5_readTown_124 (by decide) (fun c14 => ?_) (fun c14 => ?_)
                          ·
                            have hff := ff7 hM2 hM5 (by omega) hall2 hle2 c14
                            refine lv_iconst (v := nI 0) hx hb dX5_readTown_131 (by decide) ?_
                            exact hret _ _ _ _ _ _ [(o, .inr (5, [.int ff, .int ftr, .ref aso, .ref asl, .ref ace, .int (nI M), .int (nI B), .ref ape, .ref aki, .ref abo, .int (nI (f0 + (2 + M9 * (M9 + 1)) + 3 * c0)), .int (nI M9), .int (nI c0), .ref arp, .ref ark, .ref arb, .int fb, .int fto, .int (nI R), .ref awh, .ref awn, .ref awm, .ref awk, .ref amo, .ref amu])), (ace, aI G 240 CE), (arp, aI G 25 (rtP RP CE M9 f0 M9)), (ark, aI G 4 (rtK RK CE (f0 + (2 + M9 * (M9 + 1))) c0)), (arb, aI G 4 (rtB RB CE (f0 + (2 + M9 * (M9 + 1))) c0))] ((bI_f hff.2).symm) ⟨f0 + (2 + M9 * (M9 + 1)) + 3 * c0, nI M9, nI c0, rtP RP CE M9 f0 M9, rtK RK CE (f0 + (2 + M9 * (M9 + 1))) c0, rtB RB CE (f0 + (2 + M9 * (M9 + 1))) c0, rfl, rfl, (fun h => absurd h hff.2), (fun _ => by have := hff.1; omega)⟩ rfl hP hS dX5_readTown_132
                          ·
                            have hok := ok7 hall2 (by omega) c14
                            refine lv_iconst (v := nI 1) hx hb dX5_readTown_127 (by decide) ?_
                            refine lv_goto (tgt := 132) hx hb dX5_readTown_128 (by decide) ?_
                            exact hret _ _ _ _ _ _ [(o, .inr (5, [.int ff, .int ftr, .ref aso, .ref asl, .ref ace, .int (nI M), .int (nI B), .ref ape, .ref aki, .ref abo, .int (nI (f0 + (2 + M9 * (M9 + 1)) + 3 * c0)), .int (nI M9), .int (nI c0), .ref arp, .ref ark, .ref arb, .int fb, .int fto, .int (nI R), .ref awh, .ref awn, .ref awm, .ref awk, .ref amo, .ref amu])), (ace, aI G 240 CE), (arp, aI G 25 (rtP RP CE M9 f0 M9)), (ark, aI G 4 (rtK RK CE (f0 + (2 + M9 * (M9 + 1))) c0)), (arb, aI G 4 (rtB RB CE (f0 + (2 + M9 * (M9 + 1))) c0))] ((bI_t hok.1).symm) ⟨f0 + (2 + M9 * (M9 + 1)) + 3 * c0, nI M9, nI c0, rtP RP CE M9 f0 M9, rtK RK CE (f0 + (2 + M9 * (M9 + 1))) c0, rtB RB CE (f0 + (2 + M9 * (M9 + 1))) c0, rfl, rfl, (fun _ => by rw [hok.2]; exact ⟨rfl, rfl, rfl, rfl, rfl⟩), (fun h => absurd hok.1 h)⟩ rfl hP hS dX5_readTown_132
                        ·
                          refine lv_aload_n hx hb dX5_readTown_99 rfl (lv_at hl 0 rfl) ?_
                          refine lv_iload_n hx hb dX5_readTown_100 rfl (lv_at hl 1 rfl) ?_
                          refine lv_bipush (v := nI 59) hx hb dX5_readTown_101 (by decide) ?_
                          by_cases hs3 : f0 + (2 + M9 * (M9 + 1)) + 3 * c0 < f0 + n ∧ CE (f0 + (2 + M9 * (M9 + 1)) + 3 * c0) = nI 59
                          ·
                            refine wtV (As := [.int (nI (f0 + n)), .int (nI 59)]) (rest := []) (ci := 5) (q0 := 0) hE (kX5_isSigny l G o ff ftr aso asl ace M B ape aki abo (nI M9) (nI c0) arp ark arb fb fto R awh awn awm awk amo amu CE (f0 + (2 + M9 * (M9 + 1)) + 3 * c0) (f0 + n) 59 hs3.1 (by omega) hs3.2) (cwV 2 hts gX5_readTown_X5_isSign rfl rfl rfl (by decide +kernel) ⟨Nat.le_of_ble_eq_true rfl, Nat.le_of_ble_eq_true rfl⟩) hP hK hD hS [0, 1] (by decide) rfl (Eq.trans (b := [o, ace]) rfl rfl) (W1 := [(o, .inr (5, [.int ff, .int ftr, .ref aso, .ref asl, .ref ace, .int (nI M), .int (nI B), .ref ape, .ref aki, .ref abo, .int (nI ((f0 + (2 + M9 * (M9 + 1)) + 3 * c0) + 1)), .int (nI M9), .int (nI c0), .ref arp, .ref ark, .ref arb, .int fb, .int fto, .int (nI R), .ref awh, .ref awn, .ref awm, .ref awk, .ref amo, .ref amu])), (ace, aI G 240 CE), (arp, aI G 25 (rtP RP CE M9 f0 M9)), (ark, aI G 4 (rtK RK CE (f0 + (2 + M9 * (M9 + 1))) c0)), (arb, aI G 4 (rtB RB CE (f0 + (2 + M9 * (M9 + 1))) c0))]) rfl rfl rfl rfl hl.1 rfl (Nat.le_of_ble_eq_true rfl) dX5_readTown_103 ⟨Nat.zero_le _, Nat.zero_le _⟩ (fun H locs hP hD hS => ?_)
                            refine W.eq (g2 := F0 m 106 ls [.int (bI True)]) rfl ?_
                            refine bz_eq (tgt := 117) hx hb dX5_readTown_106 (by decide) (fun c15 => ?_) (fun c15 => ?_)
                            ·
                              exact absurd True.intro c15
                            ·
                              refine lv_aload_n hx hb dX5_readTown_109 rfl (lv_at hl 0 rfl) ?_
                              refine lv_iload_n hx hb dX5_readTown_110 rfl (lv_at hl 1 rfl) ?_
                              have hc4 : c0 < 4 := by omega
                              by_cases hs4 : f0 + (2 + M9 * (M9 + 1)) + 3 * c0 + 1 < f0 + n ∧ ¬ CE (f0 + (2 + M9 * (M9 + 1)) + 3 * c0 + 1) < nI 98 ∧ ¬ nI 100 < CE (f0 + (2 + M9 * (M9 + 1)) + 3 * c0 + 1)
                              ·
                                by_cases hs5 : f0 + (2 + M9 * (M9 + 1)) + 3 * c0 + 1 + 1 < f0 + n ∧ dgt (CE (f0 + (2 + M9 * (M9 + 1)) + 3 * c0 + 1 + 1)) 0 (M9 - 1)
                                ·
                                  refine wtV (As := [.int (nI (f0 + n))]) (rest := []) (ci := 5) (q0 := 0) hE (kX5_readBoyy l G o ff ftr aso asl ace M B ape aki abo arp ark arb fb fto R awh awn awm awk amo amu CE (rtK RK CE (f0 + (2 + M9 * (M9 + 1))) c0) (rtB RB CE (f0 + (2 + M9 * (M9 + 1))) c0) ((f0 + (2 + M9 * (M9 + 1)) + 3 * c0) + 1) (f0 + n) M9 c0 hM5 hM2 hc4 (by omega) hs5.1 hs4.2.1 hs4.2.2 hs5.2) (cwV 1 hts gX5_readTown_X5_readBoy rfl rfl rfl (by decide +kernel) ⟨Nat.le_of_ble_eq_true rfl, Nat.le_of_ble_eq_true rfl⟩) hP hK hD hS [0, 1, 3, 4] (by decide) rfl (Eq.trans (b := [o, ace, ark, arb]) rfl rfl) (W1 := [(o, .inr (5, [.int ff, .int ftr, .ref aso, .ref asl, .ref ace, .int (nI M), .int (nI B), .ref ape, .ref aki, .ref abo, .int (nI (((f0 + (2 + M9 * (M9 + 1)) + 3 * c0) + 1) + 2)), .int (nI M9), .int (nI (c0 + 1)), .ref arp, .ref ark, .ref arb, .int fb, .int fto, .int (nI R), .ref awh, .ref awn, .ref awm, .ref awk, .ref amo, .ref amu])), (ace, aI G 240 CE), (arp, aI G 25 (rtP RP CE M9 f0 M9)), (ark, aI G 4 (upd (rtK RK CE (f0 + (2 + M9 * (M9 + 1))) c0) c0 (nI (k9 (CE ((f0 + (2 + M9 * (M9 + 1)) + 3 * c0) + 1)))))), (arb, aI G 4 (upd (rtB RB CE (f0 + (2 + M9 * (M9 + 1))) c0) c0 (nI (d9 (CE (((f0 + (2 + M9 * (M9 + 1)) + 3 * c0) + 1) + 1))))))]) rfl rfl rfl rfl hl.1 rfl (Nat.le_of_ble_eq_true rfl) dX5_readTown_111 ⟨Nat.zero_le _, Nat.zero_le _⟩ (fun H locs hP hD hS => ?_)
                                  refine W.eq (g2 := F0 m 114 ls [.int (bI True)]) rfl ?_
                                  refine bz_ne (tgt := 76) hx hb dX5_readTown_114 (by decide) (fun c16 => ?_) (fun c16 => ?_)
                                  ·
                                    have hP17 : va_P G.1 vwCl [(o, .inr (5, [.int ff, .int ftr, .ref aso, .ref asl, .ref ace, .int (nI M), .int (nI B), .ref ape, .ref aki, .ref abo, .int (nI (f0 + (2 + M9 * (M9 + 1)) + 3 * (c0 + 1))), .int (nI M9), .int (nI (c0 + 1)), .ref arp, .ref ark, .ref arb, .int fb, .int fto, .int (nI R), .ref awh, .ref awn, .ref awm, .ref awk, .ref amo, .ref amu])), (ace, aI G 240 CE), (arp, aI G 25 (rtP RP CE M9 f0 M9)), (ark, aI G 4 (rtK RK CE (f0 + (2 + M9 * (M9 + 1))) (c0 + 1))), (arb, aI G 4 (rtB RB CE (f0 + (2 + M9 * (M9 + 1))) (c0 + 1)))] H := by
                                      rw [show (nI (f0 + (2 + M9 * (M9 + 1)) + 3 * (c0 + 1))) = (nI (((f0 + (2 + M9 * (M9 + 1)) + 3 * c0) + 1) + 2)) from congrArg nI (by omega)]
                                      rw [show (rtK RK CE (f0 + (2 + M9 * (M9 + 1))) (c0 + 1)) = (upd (rtK RK CE (f0 + (2 + M9 * (M9 + 1))) c0) c0 (nI (k9 (CE ((f0 + (2 + M9 * (M9 + 1)) + 3 * c0) + 1))))) from rfl]
                                      rw [show (rtB RB CE (f0 + (2 + M9 * (M9 + 1))) (c0 + 1)) = (upd (rtB RB CE (f0 + (2 + M9 * (M9 + 1))) c0) c0 (nI (d9 (CE (((f0 + (2 + M9 * (M9 + 1)) + 3 * c0) + 1) + 1))))) from rfl]
                                      exact hP
                                    have hD17 : va_D A [(o, .inr (5, [.int ff, .int ftr, .ref aso, .ref asl, .ref ace, .int (nI M), .int (nI B), .ref ape, .ref aki, .ref abo, .int (nI (f0 + (2 + M9 * (M9 + 1)) + 3 * (c0 + 1))), .int (nI M9), .int (nI (c0 + 1)), .ref arp, .ref ark, .ref arb, .int fb, .int fto, .int (nI R), .ref awh, .ref awn, .ref awm, .ref awk, .ref amo, .ref amu])), (ace, aI G 240 CE), (arp, aI G 25 (rtP RP CE M9 f0 M9)), (ark, aI G 4 (rtK RK CE (f0 + (2 + M9 * (M9 + 1))) (c0 + 1))), (arb, aI G 4 (rtB RB CE (f0 + (2 + M9 * (M9 + 1))) (c0 + 1)))] := by
                                      rw [show (nI (f0 + (2 + M9 * (M9 + 1)) + 3 * (c0 + 1))) = (nI (((f0 + (2 + M9 * (M9 + 1)) + 3 * c0) + 1) + 2)) from congrArg nI (by omega)]
                                      rw [show (rtK RK CE (f0 + (2 + M9 * (M9 + 1))) (c0 + 1)) = (upd (rtK RK CE (f0 + (2 + M9 * (M9 + 1))) c0) c0 (nI (k9 (CE ((f0 + (2 + M9 * (M9 + 1)) + 3 * c0) + 1))))) from rfl]
                                      rw [show (rtB RB CE (f0 + (2 + M9 * (M9 + 1))) (c0 + 1)) = (upd (rtB RB CE (f0 + (2 + M9 * (M9 + 1))) c0) c0 (nI (d9 (CE (((f0 + (2 + M9 * (M9 + 1)) + 3 * c0) + 1) + 1))))) from rfl]
                                      exact hD
                                    exact ih2 (c0 + 1) H locs ls (by omega) (by omega) (boyS hM2 hM5 hc4 hall2 hs3.2 hs4.2 hs5.2) (by have := hs5.1; omega) hP17 hD17 hS (lv_sub hl [0, 1] rfl)
                                  ·
                                    exact absurd True.intro c16
                                ·
                                  have hff := ff6 hM2 hM5 hc4 hall2 hs3 hs4 hs5
                                  refine wtV (As := [.int (nI (f0 + n))]) (rest := []) (ci := 5) (q0 := 0) hE (kX5_readBoyn2 l G o ff ftr aso asl ace M B ape aki abo arp ark arb fb fto R awh awn awm awk amo amu CE (rtK RK CE (f0 + (2 + M9 * (M9 + 1))) c0) (rtB RB CE (f0 + (2 + M9 * (M9 + 1))) c0) ((f0 + (2 + M9 * (M9 + 1)) + 3 * c0) + 1) (f0 + n) M9 c0 hM5 hM2 hc4 (by omega) hs4.1 hs4.2.1 hs4.2.2 hs5) (cwV 1 hts gX5_readTown_X5_readBoy rfl rfl rfl (by decide +kernel) ⟨Nat.le_of_ble_eq_true rfl, Nat.le_of_ble_eq_true rfl⟩) hP hK hD hS [0, 1, 3, 4] (by decide) rfl (Eq.trans (b := [o, ace, ark, arb]) rfl rfl) (W1 := [(o, .inr (5, [.int ff, .int ftr, .ref aso, .ref asl, .ref ace, .int (nI M), .int (nI B), .ref ape, .ref aki, .ref abo, .int (nI (((f0 + (2 + M9 * (M9 + 1)) + 3 * c0) + 1) + 1)), .int (nI M9), .int (nI (c0 + 1)), .ref arp, .ref ark, .ref arb, .int fb, .int fto, .int (nI R), .ref awh, .ref awn, .ref awm, .ref awk, .ref amo, .ref amu])), (ace, aI G 240 CE), (arp, aI G 25 (rtP RP CE M9 f0 M9)), (ark, aI G 4 (upd (rtK RK CE (f0 + (2 + M9 * (M9 + 1))) c0) c0 (nI (k9 (CE ((f0 + (2 + M9 * (M9 + 1)) + 3 * c0) + 1)))))), (arb, aI G 4 (upd (rtB RB CE (f0 + (2 + M9 * (M9 + 1))) c0) c0 (-9)))]) rfl rfl rfl rfl hl.1 rfl (Nat.le_of_ble_eq_true rfl) dX5_readTown_111 ⟨Nat.zero_le _, Nat.zero_le _⟩ (fun H locs hP hD hS => ?_)
                                  refine W.eq (g2 := F0 m 114 ls [.int (bI False)]) rfl ?_
                                  refine bz_ne (tgt := 76) hx hb dX5_readTown_114 (by decide) (fun c18 => ?_) (fun c18 => ?_)
                                  ·
                                    exact c18.elim
                                  ·
                                    refine lv_iconst (v := nI 0) hx hb dX5_readTown_117 (by decide) ?_
                                    exact hret _ _ _ _ _ _ [(o, .inr (5, [.int ff, .int ftr, .ref aso, .ref asl, .ref ace, .int (nI M), .int (nI B), .ref ape, .ref aki, .ref abo, .int (nI (((f0 + (2 + M9 * (M9 + 1)) + 3 * c0) + 1) + 1)), .int (nI M9), .int (nI (c0 + 1)), .ref arp, .ref ark, .ref arb, .int fb, .int fto, .int (nI R), .ref awh, .ref awn, .ref awm, .ref awk, .ref amo, .ref amu])), (ace, aI G 240 CE), (arp, aI G 25 (rtP RP CE M9 f0 M9)), (ark, aI G 4 (upd (rtK RK CE (f0 + (2 + M9 * (M9 + 1))) c0) c0 (nI (k9 (CE ((f0 + (2 + M9 * (M9 + 1)) + 3 * c0) + 1)))))), (arb, aI G 4 (upd (rtB RB CE (f0 + (2 + M9 * (M9 + 1))) c0) c0 (-9)))] ((bI_f hff.2).symm) ⟨((f0 + (2 + M9 * (M9 + 1)) + 3 * c0) + 1) + 1, nI M9, nI (c0 + 1), rtP RP CE M9 f0 M9, upd (rtK RK CE (f0 + (2 + M9 * (M9 + 1))) c0) c0 (nI (k9 (CE ((f0 + (2 + M9 * (M9 + 1)) + 3 * c0) + 1)))), upd (rtB RB CE (f0 + (2 + M9 * (M9 + 1))) c0) c0 (-9), rfl, rfl, (fun h => absurd h hff.2), (fun _ => by have := hff.1; omega)⟩ rfl hP hS dX5_readTown_118
                              ·
                                have hff := ff5 hM2 hM5 hc4 hall2 hs3 hs4
                                refine wtV (As := [.int (nI (f0 + n))]) (rest := []) (ci := 5) (q0 := 0) hE (kX5_readBoyn1 l G o ff ftr aso asl ace M B ape aki abo arp ark arb fb fto R awh awn awm awk amo amu CE (rtK RK CE (f0 + (2 + M9 * (M9 + 1))) c0) (rtB RB CE (f0 + (2 + M9 * (M9 + 1))) c0) ((f0 + (2 + M9 * (M9 + 1)) + 3 * c0) + 1) (f0 + n) M9 c0 hM5 hM2 hc4 (by omega) (by omega) hs4) (cwV 1 hts gX5_readTown_X5_readBoy rfl rfl rfl (by decide +kernel) ⟨Nat.le_of_ble_eq_true rfl, Nat.le_of_ble_eq_true rfl⟩) hP hK hD hS [0, 1, 3, 4] (by decide) rfl (Eq.trans (b := [o, ace, ark, arb]) rfl rfl) (W1 := [(o, .inr (5, [.int ff, .int ftr, .ref aso, .ref asl, .ref ace, .int (nI M), .int (nI B), .ref ape, .ref aki, .ref abo, .int (nI ((f0 + (2 + M9 * (M9 + 1)) + 3 * c0) + 1)), .int (nI M9), .int (nI c0), .ref arp, .ref ark, .ref arb, .int fb, .int fto, .int (nI R), .ref awh, .ref awn, .ref awm, .ref awk, .ref amo, .ref amu])), (ace, aI G 240 CE), (arp, aI G 25 (rtP RP CE M9 f0 M9)), (ark, aI G 4 (upd (rtK RK CE (f0 + (2 + M9 * (M9 + 1))) c0) c0 (-9))), (arb, aI G 4 (rtB RB CE (f0 + (2 + M9 * (M9 + 1))) c0))]) rfl rfl rfl rfl hl.1 rfl (Nat.le_of_ble_eq_true rfl) dX5_readTown_111 ⟨Nat.zero_le _, Nat.zero_le _⟩ (fun H locs hP hD hS => ?_)
                                refine W.eq (g2 := F0 m 114 ls [.int (bI False)]) rfl ?_
                                refine bz_ne (tgt := 76) hx hb dX5_readTown_114 (by decide) (fun c19 => ?_) (fun c19 => ?_)
                                ·
                                  exact c19.elim
                                ·
                                  refine lv_iconst (v := nI 0) hx hb dX5_readTown_117 (by decide) ?_
                                  exact hret _ _ _ _ _ _ [(o, .inr (5, [.int ff, .int ftr, .ref aso, .ref asl, .ref ace, .int (nI M), .int (nI B), .ref ape, .ref aki, .ref abo, .int (nI ((f0 + (2 + M9 * (M9 + 1)) + 3 * c0) + 1)), .int (nI M9), .int (nI c0), .ref arp, .ref ark, .ref arb, .int fb, .int fto, .int (nI R), .ref awh, .ref awn, .ref awm, .ref awk, .ref amo, .ref amu])), (ace, aI G 240 CE), (arp, aI G 25 (rtP RP CE M9 f0 M9)), (ark, aI G 4 (upd (rtK RK CE (f0 + (2 + M9 * (M9 + 1))) c0) c0 (-9))), (arb, aI G 4 (rtB RB CE (f0 + (2 + M9 * (M9 + 1))) c0))] ((bI_f hff.2).symm) ⟨(f0 + (2 + M9 * (M9 + 1)) + 3 * c0) + 1, nI M9, nI c0, rtP RP CE M9 f0 M9, upd (rtK RK CE (f0 + (2 + M9 * (M9 + 1))) c0) c0 (-9), (rtB RB CE (f0 + (2 + M9 * (M9 + 1))) c0), rfl, rfl, (fun h => absurd h hff.2), (fun _ => by have := hff.1; omega)⟩ rfl hP hS dX5_readTown_118
                          ·
                            have hff := ff4 hM2 hM5 hall2 hle2 (by omega) hs3
                            refine wtV (As := [.int (nI (f0 + n)), .int (nI 59)]) (rest := []) (ci := 5) (q0 := 0) hE (kX5_isSignn l G o ff ftr aso asl ace M B ape aki abo (nI M9) (nI c0) arp ark arb fb fto R awh awn awm awk amo amu CE (f0 + (2 + M9 * (M9 + 1)) + 3 * c0) (f0 + n) 59 hs3 (by omega) (by omega)) (cwV 2 hts gX5_readTown_X5_isSign rfl rfl rfl (by decide +kernel) ⟨Nat.le_of_ble_eq_true rfl, Nat.le_of_ble_eq_true rfl⟩) hP hK hD hS [0, 1] (by decide) rfl (Eq.trans (b := [o, ace]) rfl rfl) (W1 := [(o, .inr (5, [.int ff, .int ftr, .ref aso, .ref asl, .ref ace, .int (nI M), .int (nI B), .ref ape, .ref aki, .ref abo, .int (nI (f0 + (2 + M9 * (M9 + 1)) + 3 * c0)), .int (nI M9), .int (nI c0), .ref arp, .ref ark, .ref arb, .int fb, .int fto, .int (nI R), .ref awh, .ref awn, .ref awm, .ref awk, .ref amo, .ref amu])), (ace, aI G 240 CE), (arp, aI G 25 (rtP RP CE M9 f0 M9)), (ark, aI G 4 (rtK RK CE (f0 + (2 + M9 * (M9 + 1))) c0)), (arb, aI G 4 (rtB RB CE (f0 + (2 + M9 * (M9 + 1))) c0))]) rfl rfl rfl rfl hl.1 rfl (Nat.le_of_ble_eq_true rfl) dX5_readTown_103 ⟨Nat.zero_le _, Nat.zero_le _⟩ (fun H locs hP hD hS => ?_)
                            refine W.eq (g2 := F0 m 106 ls [.int (bI False)]) rfl ?_
                            refine bz_eq (tgt := 117) hx hb dX5_readTown_106 (by decide) (fun c20 => ?_) (fun c20 => ?_)
                            ·
                              refine lv_iconst (v := nI 0) hx hb dX5_readTown_117 (by decide) ?_
                              exact hret _ _ _ _ _ _ [(o, .inr (5, [.int ff, .int ftr, .ref aso, .ref asl, .ref ace, .int (nI M), .int (nI B), .ref ape, .ref aki, .ref abo, .int (nI (f0 + (2 + M9 * (M9 + 1)) + 3 * c0)), .int (nI M9), .int (nI c0), .ref arp, .ref ark, .ref arb, .int fb, .int fto, .int (nI R), .ref awh, .ref awn, .ref awm, .ref awk, .ref amo, .ref amu])), (ace, aI G 240 CE), (arp, aI G 25 (rtP RP CE M9 f0 M9)), (ark, aI G 4 (rtK RK CE (f0 + (2 + M9 * (M9 + 1))) c0)), (arb, aI G 4 (rtB RB CE (f0 + (2 + M9 * (M9 + 1))) c0))] ((bI_f hff.2).symm) ⟨f0 + (2 + M9 * (M9 + 1)) + 3 * c0, nI M9, nI c0, rtP RP CE M9 f0 M9, rtK RK CE (f0 + (2 + M9 * (M9 + 1))) c0, rtB RB CE (f0 + (2 + M9 * (M9 + 1))) c0, rfl, rfl, (fun h => absurd h hff.2), (fun _ => by have := hff.1; omega)⟩ rfl hP hS dX5_readTown_118
                            ·
                              exact c20.elim
                have hP21 : va_P G.1 vwCl [(o, .inr (5, [.int ff, .int ftr, .ref aso, .ref asl, .ref ace, .int (nI M), .int (nI B), .ref ape, .ref aki, .ref abo, .int (nI (f0 + (2 + M9 * (M9 + 1)) + 3 * 0)), .int (nI M9), .int (nI 0), .ref arp, .ref ark, .ref arb, .int fb, .int fto, .int (nI R), .ref awh, .ref awn, .ref awm, .ref awk, .ref amo, .ref amu])), (ace, aI G 240 CE), (arp, aI G 25 (rtP RP CE M9 f0 M9)), (ark, aI G 4 (rtK RK CE (f0 + (2 + M9 * (M9 + 1))) 0)), (arb, aI G 4 (rtB RB CE (f0 + (2 + M9 * (M9 + 1))) 0))] H := by
                  rw [show (nI (f0 + (2 + M9 * (M9 + 1)) + 3 * 0)) = (nI (f0 + 2 + M9 * (M9 + 1))) from congrArg nI (by omega)]
                  rw [show (rtK RK CE (f0 + (2 + M9 * (M9 + 1))) 0) = (RK) from rfl]
                  rw [show (rtB RB CE (f0 + (2 + M9 * (M9 + 1))) 0) = (RB) from rfl]
                  exact hP
                have hD21 : va_D A [(o, .inr (5, [.int ff, .int ftr, .ref aso, .ref asl, .ref ace, .int (nI M), .int (nI B), .ref ape, .ref aki, .ref abo, .int (nI (f0 + (2 + M9 * (M9 + 1)) + 3 * 0)), .int (nI M9), .int (nI 0), .ref arp, .ref ark, .ref arb, .int fb, .int fto, .int (nI R), .ref awh, .ref awn, .ref awm, .ref awk, .ref amo, .ref amu])), (ace, aI G 240 CE), (arp, aI G 25 (rtP RP CE M9 f0 M9)), (ark, aI G 4 (rtK RK CE (f0 + (2 + M9 * (M9 + 1))) 0)), (arb, aI G 4 (rtB RB CE (f0 + (2 + M9 * (M9 + 1))) 0))] := by
                  rw [show (nI (f0 + (2 + M9 * (M9 + 1)) + 3 * 0)) = (nI (f0 + 2 + M9 * (M9 + 1))) from congrArg nI (by omega)]
                  rw [show (rtK RK CE (f0 + (2 + M9 * (M9 + 1))) 0) = (RK) from rfl]
                  rw [show (rtB RB CE (f0 + (2 + M9 * (M9 + 1))) 0) = (RB) from rfl]
                  exact hD
                exact loop2 (4 + 1) 0 H locs ls (by omega) (by omega) (fun q hq => hall q (by omega)) (by omega) hP21 hD21 hS (lv_sub hl [1, 2] rfl)
              ·
                refine lv_aload_n hx hb dX5_readTown_49 rfl (lv_at hl 1 rfl) ?_
                refine lv_iload_n hx hb dX5_readTown_50 rfl (lv_at hl 2 rfl) ?_
                refine lv_bipush (v := nI 44) hx hb dX5_readTown_51 (by decide) ?_
                by_cases hs2 : f0 + 2 + m0 * (M9 + 1) < f0 + n ∧ CE (f0 + 2 + m0 * (M9 + 1)) = nI 44
                ·
                  refine wtV (As := [.int (nI (f0 + n)), .int (nI 44)]) (rest := []) (ci := 5) (q0 := 0) hE (kX5_isSigny l G o ff ftr aso asl ace M B ape aki abo (nI M9) (nI 0) arp ark arb fb fto R awh awn awm awk amo amu CE (f0 + 2 + m0 * (M9 + 1)) (f0 + n) 44 hs2.1 (by omega) hs2.2) (cwV 2 hts gX5_readTown_X5_isSign rfl rfl rfl (by decide +kernel) ⟨Nat.le_of_ble_eq_true rfl, Nat.le_of_ble_eq_true rfl⟩) hP hK hD hS [0, 1] (by decide) rfl (Eq.trans (b := [o, ace]) rfl rfl) (W1 := [(o, .inr (5, [.int ff, .int ftr, .ref aso, .ref asl, .ref ace, .int (nI M), .int (nI B), .ref ape, .ref aki, .ref abo, .int (nI ((f0 + 2 + m0 * (M9 + 1)) + 1)), .int (nI M9), .int (nI 0), .ref arp, .ref ark, .ref arb, .int fb, .int fto, .int (nI R), .ref awh, .ref awn, .ref awm, .ref awk, .ref amo, .ref amu])), (ace, aI G 240 CE), (arp, aI G 25 (rtP RP CE M9 f0 m0)), (ark, aI G 4 RK), (arb, aI G 4 RB)]) rfl rfl rfl rfl hl.1 rfl (Nat.le_of_ble_eq_true rfl) dX5_readTown_53 ⟨Nat.zero_le _, Nat.zero_le _⟩ (fun H locs hP hD hS => ?_)
                  refine W.eq (g2 := F0 m 56 ls [.int (bI True)]) rfl ?_
                  refine bz_eq (tgt := 68) hx hb dX5_readTown_56 (by decide) (fun c22 => ?_) (fun c22 => ?_)
                  ·
                    exact absurd True.intro c22
                  ·
                    refine lv_aload_n hx hb dX5_readTown_59 rfl (lv_at hl 1 rfl) ?_
                    refine lv_iload_n hx hb dX5_readTown_60 rfl (lv_at hl 2 rfl) ?_
                    refine lv_iload_n hx hb dX5_readTown_61 rfl (lv_at hl 0 rfl) ?_
                    rcases hfm : fi (fun b => ¬ okM CE (f0 + 2 + m0 * (M9 + 1) + 1) (f0 + n) m0 b) M9 with _ | k
                    ·
                      have hokm : ∀ b, b < M9 → okM CE (f0 + 2 + m0 * (M9 + 1) + 1) (f0 + n) m0 b := fun b hb => Classical.not_not.mp (fi_none.mp hfm b hb)
                      refine wtV (As := [.int (nI (f0 + n)), .int (nI m0)]) (rest := []) (ci := 5) (q0 := 0) hE (kX5_readMastery l G o ff ftr aso asl ace M B ape aki abo (nI 0) arp ark arb fb fto R awh awn awm awk amo amu CE (rtP RP CE M9 f0 m0) ((f0 + 2 + m0 * (M9 + 1)) + 1) (f0 + n) m0 M9 hM5 (by omega) (by omega) (by omega) hokm) (cwV 2 hts gX5_readTown_X5_readMaster rfl rfl rfl (by decide +kernel) ⟨Nat.le_of_ble_eq_true rfl, Nat.le_of_ble_eq_true rfl⟩) hP hK hD hS [0, 1, 2] (by decide) rfl (Eq.trans (b := [o, ace, arp]) rfl rfl) (W1 := [(o, .inr (5, [.int ff, .int ftr, .ref aso, .ref asl, .ref ace, .int (nI M), .int (nI B), .ref ape, .ref aki, .ref abo, .int (nI (((f0 + 2 + m0 * (M9 + 1)) + 1) + M9)), .int (nI M9), .int (nI 0), .ref arp, .ref ark, .ref arb, .int fb, .int fto, .int (nI R), .ref awh, .ref awn, .ref awm, .ref awk, .ref amo, .ref amu])), (ace, aI G 240 CE), (arp, aI G 25 (rmF (rtP RP CE M9 f0 m0) CE m0 ((f0 + 2 + m0 * (M9 + 1)) + 1) M9)), (ark, aI G 4 RK), (arb, aI G 4 RB)]) rfl rfl rfl rfl hl.1 rfl (Nat.le_of_ble_eq_true rfl) dX5_readTown_62 ⟨Nat.zero_le _, Nat.zero_le _⟩ (fun H locs hP hD hS => ?_)
                      refine W.eq (g2 := F0 m 65 ls [.int (bI True)]) rfl ?_
                      refine bz_ne (tgt := 70) hx hb dX5_readTown_65 (by decide) (fun c23 => ?_) (fun c23 => ?_)
                      ·
                        refine lv_iinc (v := nI (m0 + 1)) (lv' := [(2, .int (nI (m0 + 1))), (0, .ref o), (1, .int (nI (f0 + n)))]) hx hb dX5_readTown_70 hl (k := 0) rfl (show nI m0 + Int32.ofInt 1 = nI (m0 + 1) from nI_add _ 1) (by decide) rfl (fun ls hl => ?_)
                        refine lv_goto (tgt := 41) hx hb dX5_readTown_73 (by decide) ?_
                        have hP24 : va_P G.1 vwCl [(o, .inr (5, [.int ff, .int ftr, .ref aso, .ref asl, .ref ace, .int (nI M), .int (nI B), .ref ape, .ref aki, .ref abo, .int (nI (f0 + 2 + (m0 + 1) * (M9 + 1))), .int (nI M9), .int (nI 0), .ref arp, .ref ark, .ref arb, .int fb, .int fto, .int (nI R), .ref awh, .ref awn, .ref awm, .ref awk, .ref amo, .ref amu])), (ace, aI G 240 CE), (arp, aI G 25 (rtP RP CE M9 f0 (m0 + 1))), (ark, aI G 4 RK), (arb, aI G 4 RB)] H := by
                          rw [show (nI (f0 + 2 + (m0 + 1) * (M9 + 1))) = (nI (((f0 + 2 + m0 * (M9 + 1)) + 1) + M9)) from congrArg nI (by first | omega | (rw [Nat.succ_mul]; omega))]
                          rw [show (rtP RP CE M9 f0 (m0 + 1)) = (rmF (rtP RP CE M9 f0 m0) CE m0 ((f0 + 2 + m0 * (M9 + 1)) + 1) M9) from rfl]
                          exact hP
                        have hD24 : va_D A [(o, .inr (5, [.int ff, .int ftr, .ref aso, .ref asl, .ref ace, .int (nI M), .int (nI B), .ref ape, .ref aki, .ref abo, .int (nI (f0 + 2 + (m0 + 1) * (M9 + 1))), .int (nI M9), .int (nI 0), .ref arp, .ref ark, .ref arb, .int fb, .int fto, .int (nI R), .ref awh, .ref awn, .ref awm, .ref awk, .ref amo, .ref amu])), (ace, aI G 240 CE), (arp, aI G 25 (rtP RP CE M9 f0 (m0 + 1))), (ark, aI G 4 RK), (arb, aI G 4 RB)] := by
                          rw [show (nI (f0 + 2 + (m0 + 1) * (M9 + 1))) = (nI (((f0 + 2 + m0 * (M9 + 1)) + 1) + M9)) from congrArg nI (by first | omega | (rw [Nat.succ_mul]; omega))]
                          rw [show (rtP RP CE M9 f0 (m0 + 1)) = (rmF (rtP RP CE M9 f0 m0) CE m0 ((f0 + 2 + m0 * (M9 + 1)) + 1) M9) from rfl]
                          exact hD
                        exact ih1 (m0 + 1) H locs ls (by omega) (by omega) ((rowS hM2 hM5 (by omega) hall hs2 hokm).1) ((rowS hM2 hM5 (by omega) hall hs2 hokm).2) hP24 hD24 hS (lv_sub hl [0, 1, 2] rfl)
                      ·
                        exact absurd True.intro c23
                    ·
                      obtain ⟨hkM, hkn, hkb⟩ := fi_some.mp hfm
                      have hkb2 : ∀ b, b < k → okM CE (f0 + 2 + m0 * (M9 + 1) + 1) (f0 + n) m0 b := fun b hb => Classical.not_not.mp (hkb b hb)
                      have hff := ff3 hM2 hM5 (show m0 < M9 by omega) hall hs2 hkM hkb2 hkn
                      refine wtV (As := [.int (nI (f0 + n)), .int (nI m0)]) (rest := []) (ci := 5) (q0 := 0) hE (kX5_readMastern l G o ff ftr aso asl ace M B ape aki abo (nI 0) arp ark arb fb fto R awh awn awm awk amo amu CE (rtP RP CE M9 f0 m0) ((f0 + 2 + m0 * (M9 + 1)) + 1) (f0 + n) m0 M9 k hM5 (by omega) (by omega) (by omega) hkM hkb2 hkn) (cwV 2 hts gX5_readTown_X5_readMaster rfl rfl rfl (by decide +kernel) ⟨Nat.le_of_ble_eq_true rfl, Nat.le_of_ble_eq_true rfl⟩) hP hK hD hS [0, 1, 2] (by decide) rfl (Eq.trans (b := [o, ace, arp]) rfl rfl) (W1 := [(o, .inr (5, [.int ff, .int ftr, .ref aso, .ref asl, .ref ace, .int (nI M), .int (nI B), .ref ape, .ref aki, .ref abo, .int (nI (((f0 + 2 + m0 * (M9 + 1)) + 1) + k)), .int (nI M9), .int (nI 0), .ref arp, .ref ark, .ref arb, .int fb, .int fto, .int (nI R), .ref awh, .ref awn, .ref awm, .ref awk, .ref amo, .ref amu])), (ace, aI G 240 CE), (arp, aI G 25 (upd (rmF (rtP RP CE M9 f0 m0) CE m0 ((f0 + 2 + m0 * (M9 + 1)) + 1) k) (m0 * 5 + k) (-9))), (ark, aI G 4 RK), (arb, aI G 4 RB)]) rfl rfl rfl rfl hl.1 rfl (Nat.le_of_ble_eq_true rfl) dX5_readTown_62 ⟨Nat.zero_le _, Nat.zero_le _⟩ (fun H locs hP hD hS => ?_)
                      refine W.eq (g2 := F0 m 65 ls [.int (bI False)]) rfl ?_
                      refine bz_ne (tgt := 70) hx hb dX5_readTown_65 (by decide) (fun c25 => ?_) (fun c25 => ?_)
                      ·
                        exact c25.elim
                      ·
                        refine lv_iconst (v := nI 0) hx hb dX5_readTown_68 (by decide) ?_
                        exact hret _ _ _ _ _ _ [(o, .inr (5, [.int ff, .int ftr, .ref aso, .ref asl, .ref ace, .int (nI M), .int (nI B), .ref ape, .ref aki, .ref abo, .int (nI (((f0 + 2 + m0 * (M9 + 1)) + 1) + k)), .int (nI M9), .int (nI 0), .ref arp, .ref ark, .ref arb, .int fb, .int fto, .int (nI R), .ref awh, .ref awn, .ref awm, .ref awk, .ref amo, .ref amu])), (ace, aI G 240 CE), (arp, aI G 25 (upd (rmF (rtP RP CE M9 f0 m0) CE m0 ((f0 + 2 + m0 * (M9 + 1)) + 1) k) (m0 * 5 + k) (-9))), (ark, aI G 4 RK), (arb, aI G 4 RB)] ((bI_f hff.2).symm) ⟨((f0 + 2 + m0 * (M9 + 1)) + 1) + k, nI M9, nI 0, upd (rmF (rtP RP CE M9 f0 m0) CE m0 ((f0 + 2 + m0 * (M9 + 1)) + 1) k) (m0 * 5 + k) (-9), RK, RB, rfl, rfl, (fun h => absurd h hff.2), (fun _ => by have := hff.1; omega)⟩ rfl hP hS dX5_readTown_69
                ·
                  have hff := ff2 hM2 hM5 (show m0 < M9 by omega) hall hle hs2
                  refine wtV (As := [.int (nI (f0 + n)), .int (nI 44)]) (rest := []) (ci := 5) (q0 := 0) hE (kX5_isSignn l G o ff ftr aso asl ace M B ape aki abo (nI M9) (nI 0) arp ark arb fb fto R awh awn awm awk amo amu CE (f0 + 2 + m0 * (M9 + 1)) (f0 + n) 44 hs2 (by omega) (by omega)) (cwV 2 hts gX5_readTown_X5_isSign rfl rfl rfl (by decide +kernel) ⟨Nat.le_of_ble_eq_true rfl, Nat.le_of_ble_eq_true rfl⟩) hP hK hD hS [0, 1] (by decide) rfl (Eq.trans (b := [o, ace]) rfl rfl) (W1 := [(o, .inr (5, [.int ff, .int ftr, .ref aso, .ref asl, .ref ace, .int (nI M), .int (nI B), .ref ape, .ref aki, .ref abo, .int (nI (f0 + 2 + m0 * (M9 + 1))), .int (nI M9), .int (nI 0), .ref arp, .ref ark, .ref arb, .int fb, .int fto, .int (nI R), .ref awh, .ref awn, .ref awm, .ref awk, .ref amo, .ref amu])), (ace, aI G 240 CE), (arp, aI G 25 (rtP RP CE M9 f0 m0)), (ark, aI G 4 RK), (arb, aI G 4 RB)]) rfl rfl rfl rfl hl.1 rfl (Nat.le_of_ble_eq_true rfl) dX5_readTown_53 ⟨Nat.zero_le _, Nat.zero_le _⟩ (fun H locs hP hD hS => ?_)
                  refine W.eq (g2 := F0 m 56 ls [.int (bI False)]) rfl ?_
                  refine bz_eq (tgt := 68) hx hb dX5_readTown_56 (by decide) (fun c26 => ?_) (fun c26 => ?_)
                  ·
                    refine lv_iconst (v := nI 0) hx hb dX5_readTown_68 (by decide) ?_
                    exact hret _ _ _ _ _ _ [(o, .inr (5, [.int ff, .int ftr, .ref aso, .ref asl, .ref ace, .int (nI M), .int (nI B), .ref ape, .ref aki, .ref abo, .int (nI (f0 + 2 + m0 * (M9 + 1))), .int (nI M9), .int (nI 0), .ref arp, .ref ark, .ref arb, .int fb, .int fto, .int (nI R), .ref awh, .ref awn, .ref awm, .ref awk, .ref amo, .ref amu])), (ace, aI G 240 CE), (arp, aI G 25 (rtP RP CE M9 f0 m0)), (ark, aI G 4 RK), (arb, aI G 4 RB)] ((bI_f hff.2).symm) ⟨f0 + 2 + m0 * (M9 + 1), nI M9, nI 0, rtP RP CE M9 f0 m0, RK, RB, rfl, rfl, (fun h => absurd h hff.2), (fun _ => by have := hff.1; omega)⟩ rfl hP hS dX5_readTown_69
                  ·
                    exact c26.elim
          have hP27 : va_P G.1 vwCl [(o, .inr (5, [.int ff, .int ftr, .ref aso, .ref asl, .ref ace, .int (nI M), .int (nI B), .ref ape, .ref aki, .ref abo, .int (nI (f0 + 2 + 0 * (M9 + 1))), .int (nI M9), .int (nI 0), .ref arp, .ref ark, .ref arb, .int fb, .int fto, .int (nI R), .ref awh, .ref awn, .ref awm, .ref awk, .ref amo, .ref amu])), (ace, aI G 240 CE), (arp, aI G 25 (rtP RP CE M9 f0 0)), (ark, aI G 4 RK), (arb, aI G 4 RB)] H := by
            rw [show (nI (f0 + 2 + 0 * (M9 + 1))) = (nI ((f0 + 1) + 1)) from congrArg nI (by first | omega | (rw [Nat.succ_mul]; omega))]
            rw [show (rtP RP CE M9 f0 0) = (RP) from rfl]
            exact hP
          have hD27 : va_D A [(o, .inr (5, [.int ff, .int ftr, .ref aso, .ref asl, .ref ace, .int (nI M), .int (nI B), .ref ape, .ref aki, .ref abo, .int (nI (f0 + 2 + 0 * (M9 + 1))), .int (nI M9), .int (nI 0), .ref arp, .ref ark, .ref arb, .int fb, .int fto, .int (nI R), .ref awh, .ref awn, .ref awm, .ref awk, .ref amo, .ref amu])), (ace, aI G 240 CE), (arp, aI G 25 (rtP RP CE M9 f0 0)), (ark, aI G 4 RK), (arb, aI G 4 RB)] := by
            rw [show (nI (f0 + 2 + 0 * (M9 + 1))) = (nI ((f0 + 1) + 1)) from congrArg nI (by first | omega | (rw [Nat.succ_mul]; omega))]
            rw [show (rtP RP CE M9 f0 0) = (RP) from rfl]
            exact hD
          exact loop1 (M9 + 1) 0 H locs ls (by omega) (by omega) (all2 hs0.2 hM2) (by omega) hP27 hD27 hS (lv_sub hl [0, 1, 2] rfl)
        ·
          exact absurd c2 (nI_n9 (by omega))
      ·
        have hff := ff1 hs0 hs1 hMt
        refine wtV (As := [.int (nI (f0 + n)), .int (nI 2), .int (nI 5)]) (rest := [.ref o]) (ci := 5) (q0 := 0) hE (kX5_digitn l G o ff ftr aso asl ace M B ape aki abo rM (nI 0) arp ark arb fb fto R awh awn awm awk amo amu CE (f0 + 1) (f0 + n) 2 5 hs1 (by omega) (by omega)) (cwV 3 hts gX5_readTown_X5_digit rfl rfl rfl (by decide +kernel) ⟨Nat.le_of_ble_eq_true rfl, Nat.le_of_ble_eq_true rfl⟩) hP hK hD hS [0, 1] (by decide) rfl (Eq.trans (b := [o, ace]) rfl rfl) (W1 := [(o, .inr (5, [.int ff, .int ftr, .ref aso, .ref asl, .ref ace, .int (nI M), .int (nI B), .ref ape, .ref aki, .ref abo, .int (nI (f0 + 1)), .int rM, .int (nI 0), .ref arp, .ref ark, .ref arb, .int fb, .int fto, .int (nI R), .ref awh, .ref awn, .ref awm, .ref awk, .ref amo, .ref amu])), (ace, aI G 240 CE), (arp, aI G 25 RP), (ark, aI G 4 RK), (arb, aI G 4 RB)]) rfl rfl rfl rfl hl.1 rfl (Nat.le_of_ble_eq_true rfl) dX5_readTown_22 ⟨Nat.zero_le _, Nat.zero_le _⟩ (fun H locs hP hD hS => ?_)
        refine W.eq (g2 := F0 m 25 ls [.int (-9), .ref o]) rfl ?_
        refine g_put (v := (-9)) hx hb hts ixX5_readTown_X5 tyX5 tyX5_ok nmX5 hown hK hP hD hS 0 rfl rfl 11 (by decide) lkX5_readTown_92 rfl rfl (Nat.le_of_ble_eq_true rfl) dX5_readTown_25 (fun H locs hP hD hS => ?_)
        have hP : va_P G.1 vwCl [(o, .inr (5, [.int ff, .int ftr, .ref aso, .ref asl, .ref ace, .int (nI M), .int (nI B), .ref ape, .ref aki, .ref abo, .int (nI (f0 + 1)), .int (-9), .int (nI 0), .ref arp, .ref ark, .ref arb, .int fb, .int fto, .int (nI R), .ref awh, .ref awn, .ref awm, .ref awk, .ref amo, .ref amu])), (ace, aI G 240 CE), (arp, aI G 25 RP), (ark, aI G 4 RK), (arb, aI G 4 RB)] H := hP
        have hD : va_D A [(o, .inr (5, [.int ff, .int ftr, .ref aso, .ref asl, .ref ace, .int (nI M), .int (nI B), .ref ape, .ref aki, .ref abo, .int (nI (f0 + 1)), .int (-9), .int (nI 0), .ref arp, .ref ark, .ref arb, .int fb, .int fto, .int (nI R), .ref awh, .ref awn, .ref awm, .ref awk, .ref amo, .ref amu])), (ace, aI G 240 CE), (arp, aI G 25 RP), (ark, aI G 4 RK), (arb, aI G 4 RB)] := hD
        refine lv_aload_n hx hb dX5_readTown_28 rfl (lv_at hl 0 rfl) ?_
        refine g_get (v := .int (-9)) hx hb hts ixX5_readTown_X5 hown hK hP 0 rfl rfl 11 (by decide) lkX5_readTown_92 rfl dX5_readTown_29 ?_
        refine lv_bipush (v := (-9)) hx hb dX5_readTown_32 (by decide) ?_
        refine lv_icmp_ne (tgt := 39) hx hb dX5_readTown_34 (by decide) (fun c28 => ?_) (fun c28 => ?_)
        ·
          exact absurd rfl c28
        ·
          refine lv_iconst (v := nI 0) hx hb dX5_readTown_37 (by decide) ?_
          exact hret _ _ _ _ _ _ [(o, .inr (5, [.int ff, .int ftr, .ref aso, .ref asl, .ref ace, .int (nI M), .int (nI B), .ref ape, .ref aki, .ref abo, .int (nI (f0 + 1)), .int (-9), .int (nI 0), .ref arp, .ref ark, .ref arb, .int fb, .int fto, .int (nI R), .ref awh, .ref awn, .ref awm, .ref awk, .ref amo, .ref amu])), (ace, aI G 240 CE), (arp, aI G 25 RP), (ark, aI G 4 RK), (arb, aI G 4 RB)] ((bI_f hff.2).symm) ⟨f0 + 1, (-9), nI 0, RP, RK, RB, rfl, rfl, (fun h => absurd h hff.2), (fun _ => by have := hff.1; omega)⟩ rfl hP hS dX5_readTown_38
    ·
      exact absurd True.intro c1
  ·
    have hff := ff0 (M := M9) hs0
    refine wtV (As := [.int (nI (f0 + n)), .int (nI 106)]) (rest := []) (ci := 5) (q0 := 0) hE (kX5_isSignn l G o ff ftr aso asl ace M B ape aki abo rM (nI 0) arp ark arb fb fto R awh awn awm awk amo amu CE f0 (f0 + n) 106 hs0 (by omega) (by omega)) (cwV 2 hts gX5_readTown_X5_isSign rfl rfl rfl (by decide +kernel) ⟨Nat.le_of_ble_eq_true rfl, Nat.le_of_ble_eq_true rfl⟩) hP hK hD hS [0, 1] (by decide) rfl (Eq.trans (b := [o, ace]) rfl rfl) (W1 := [(o, .inr (5, [.int ff, .int ftr, .ref aso, .ref asl, .ref ace, .int (nI M), .int (nI B), .ref ape, .ref aki, .ref abo, .int (nI f0), .int rM, .int (nI 0), .ref arp, .ref ark, .ref arb, .int fb, .int fto, .int (nI R), .ref awh, .ref awn, .ref awm, .ref awk, .ref amo, .ref amu])), (ace, aI G 240 CE), (arp, aI G 25 RP), (ark, aI G 4 RK), (arb, aI G 4 RB)]) rfl rfl rfl rfl hl.1 rfl (Nat.le_of_ble_eq_true rfl) dX5_readTown_9 ⟨Nat.zero_le _, Nat.zero_le _⟩ (fun H locs hP hD hS => ?_)
    refine W.eq (g2 := F0 m 12 ls [.int (bI False)]) rfl ?_
    refine bz_ne (tgt := 17) hx hb dX5_readTown_12 (by decide) (fun c29 => ?_) (fun c29 => ?_)
    ·
      exact c29.elim
    ·
      refine lv_iconst (v := nI 0) hx hb dX5_readTown_15 (by decide) ?_
      exact hret _ _ _ _ _ _ [(o, .inr (5, [.int ff, .int ftr, .ref aso, .ref asl, .ref ace, .int (nI M), .int (nI B), .ref ape, .ref aki, .ref abo, .int (nI f0), .int rM, .int (nI 0), .ref arp, .ref ark, .ref arb, .int fb, .int fto, .int (nI R), .ref awh, .ref awn, .ref awm, .ref awk, .ref amo, .ref amu])), (ace, aI G 240 CE), (arp, aI G 25 RP), (ark, aI G 4 RK), (arb, aI G 4 RB)] ((bI_f hff.2).symm) ⟨f0, rM, nI 0, RP, RK, RB, rfl, rfl, (fun h => absurd h hff.2), (fun _ => by have := hff.1; omega)⟩ rfl hP hS dX5_readTown_16
