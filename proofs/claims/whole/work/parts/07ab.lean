theorem ixX3_fits_X3 : ∀ w ∈ wsX30, w ∈ wsX3_fits := fun _ h => List.mem_cons_of_mem _ (List.mem_append_left _ (List.mem_append_right _ h))
theorem lkX3_fits_31 : Cond.fieldLink RX3 31 (TX3 4).1 (TX3 4).2.1 (TX3 4).2.2.1 ∈ wsX3_fits := List.mem_of_getElem? (i := 2) rfl
theorem lkX3_fits_28 : Cond.fieldLink RX3 28 (TX3 3).1 (TX3 3).2.1 (TX3 3).2.2.1 ∈ wsX3_fits := List.mem_of_getElem? (i := 1) rfl
set_option maxHeartbeats 4000000 in
set_option maxRecDepth 100000 in
theorem kX3_fits (l : Launch) (G : Gl) (tt : Nat) (sh : Nat) (sc : Nat) (ln : Int32) (L : Nat) (F : Nat → Int32) (i : Nat) (n : Nat) (M : Nat) (p0 : Nat) (hM0 : M = 0 ∨ 2 ≤ M) (hM : M ≤ 5) (hpM : 2 ≤ p0 → 2 ≤ M) (hip : i + p0 < 60) : Rd l G yX3_fits wsX3_fits ({ frames := 2, cells := 0, slots := 0, locals := 45 } : Room) [.ref tt, .int (nI p0)] [(tt, .inr (3, [.ref sh, .int (nI i), .int (nI n), .int (nI M), .int (nI (2 + M * (M + 1)))])), (sh, .inr (1, [.ref sc, .int ln, .int (nI L)])), (sc, aI G 60 F)] (some (.int (bI (fitP (fun t => F (i + t)) M p0)))) := by
  refine Rd.ofZ (cc := cX3_fits) (maxL := 2) (by decide) rfl (Nat.le_of_ble_eq_true rfl) ?_
  intro p e s m below meth c Q ls hE hP hK hl hret
  obtain ⟨hx, hb, hml, hown, hts⟩ := id hE
  have hl : lv_has ls 2 [(0, .ref tt), (1, .int (nI p0))] := hl
  have hmm := mm_le M hM
  refine lv_iload_n hx hb dX3_fits_0 rfl (lv_at hl 1 rfl) ?_
  refine iz_ne (tgt := 20) hx hb (by omega) dX3_fits_1 (by decide) (fun c1 => ?_) (fun c1 => ?_)
  ·
    refine lv_iload_n hx hb dX3_fits_20 rfl (lv_at hl 1 rfl) ?_
    refine lv_iconst (v := nI 1) hx hb dX3_fits_21 (by decide) ?_
    refine ic_ne (tgt := 38) hx hb (by omega) (by omega) dX3_fits_22 (by decide) (fun c2 => ?_) (fun c2 => ?_)
    ·
      refine lv_iload_n hx hb dX3_fits_38 rfl (lv_at hl 1 rfl) ?_
      refine lv_aload_n hx hb dX3_fits_39 rfl (lv_at hl 0 rfl) ?_
      refine g_get (v := .int (nI (2 + M * (M + 1)))) hx hb hts ixX3_fits_X3 hown hK hP 0 rfl rfl 4 (by decide) lkX3_fits_31 rfl dX3_fits_40 ?_
      refine ic_ge (tgt := 54) hx hb (by omega) (by omega) dX3_fits_43 (by decide) (fun c3 => ?_) (fun c3 => ?_)
      ·
        refine lv_aload_n hx hb dX3_fits_54 rfl (lv_at hl 0 rfl) ?_
        refine lv_iload_n hx hb dX3_fits_55 rfl (lv_at hl 1 rfl) ?_
        refine rdV (As := [.int (nI p0)]) (rest := []) (ci := 3) (q0 := 0) hE (kX3_fitsBoy l G tt sh sc ln L F i n M p0 (by first | omega | assumption) hM (by first | omega | assumption) hip) (cwV 1 hts gX3_fits_X3_fitsBoy rfl rfl rfl (by decide +kernel) ⟨Nat.le_of_ble_eq_true rfl, Nat.le_of_ble_eq_true rfl⟩) hP hK [0, 1, 2] rfl rfl rfl rfl hl.1 rfl (Nat.le_of_ble_eq_true rfl) dX3_fits_56 ⟨Nat.zero_le _, Nat.zero_le _⟩ ?_
        refine W.eq (g2 := F0 m 59 ls [.int (bI (fitB (fun t => F (i + t)) M p0))]) rfl ?_
        exact hret _ _ _ (congrArg bI (propext ⟨fun h => ⟨fun q => absurd q c1, fun q => absurd q c2, fun _ _ q => absurd q (by omega), fun _ _ _ => h⟩, fun h => h.2.2.2 c1 c2 (by omega)⟩)) dX3_fits_59
      ·
        refine lv_aload_n hx hb dX3_fits_46 rfl (lv_at hl 0 rfl) ?_
        refine lv_iload_n hx hb dX3_fits_47 rfl (lv_at hl 1 rfl) ?_
        refine rdV (As := [.int (nI p0)]) (rest := []) (ci := 3) (q0 := 0) hE (kX3_fitsDebt l G tt sh sc ln L F i n M p0 (by first | omega | assumption) hM (by first | omega | assumption) hip) (cwV 1 hts gX3_fits_X3_fitsDebt rfl rfl rfl (by decide +kernel) ⟨Nat.le_of_ble_eq_true rfl, Nat.le_of_ble_eq_true rfl⟩) hP hK [0, 1, 2] rfl rfl rfl rfl hl.1 rfl (Nat.le_of_ble_eq_true rfl) dX3_fits_48 ⟨Nat.zero_le _, Nat.zero_le _⟩ ?_
        refine W.eq (g2 := F0 m 51 ls [.int (bI (fitD (fun t => F (i + t)) M p0))]) rfl ?_
        refine lv_goto (tgt := 59) hx hb dX3_fits_51 (by decide) ?_
        exact hret _ _ _ (congrArg bI (propext ⟨fun h => ⟨fun q => absurd q c1, fun q => absurd q c2, fun _ _ _ => h, fun _ _ q => absurd (show p0 < 2 + M * (M + 1) by omega) q⟩, fun h => h.2.2.1 c1 c2 (by omega)⟩)) dX3_fits_59
    ·
      refine lv_aload_n hx hb dX3_fits_25 rfl (lv_at hl 0 rfl) ?_
      refine g_get (v := .int (nI M)) hx hb hts ixX3_fits_X3 hown hK hP 0 rfl rfl 3 (by decide) lkX3_fits_28 rfl dX3_fits_26 ?_
      refine iz_le (tgt := 36) hx hb (by omega) dX3_fits_29 (by decide) (fun c4 => ?_) (fun c4 => ?_)
      ·
        refine lv_iconst (v := nI 0) hx hb dX3_fits_36 (by decide) ?_
        exact hret _ _ _ ((bI_f (fun h : fitP (fun t => F (i + t)) M p0 => by have q := h.2.1 c2; omega)).symm) dX3_fits_37
      ·
        refine lv_iconst (v := nI 1) hx hb dX3_fits_32 (by decide) ?_
        refine lv_goto (tgt := 37) hx hb dX3_fits_33 (by decide) ?_
        exact hret _ _ _ ((bI_t (show fitP (fun t => F (i + t)) M p0 from ⟨fun h => absurd h (by omega), fun _ => by omega, fun _ h => absurd c2 h, fun _ h => absurd c2 h⟩)).symm) dX3_fits_37
  ·
    refine lv_aload_n hx hb dX3_fits_4 rfl (lv_at hl 0 rfl) ?_
    refine lv_iconst (v := nI 0) hx hb dX3_fits_5 (by decide) ?_
    refine rdV (As := [.int (nI 0)]) (rest := []) (ci := 3) (q0 := 0) hE (kX3_code l G tt sh sc ln L F i n M 0 (by first | omega | assumption)) (cwV 1 hts gX3_fits_X3_code rfl rfl rfl (by decide +kernel) ⟨Nat.le_of_ble_eq_true rfl, Nat.le_of_ble_eq_true rfl⟩) hP hK [0, 1, 2] rfl rfl rfl rfl hl.1 rfl (Nat.le_of_ble_eq_true rfl) dX3_fits_6 ⟨Nat.zero_le _, Nat.zero_le _⟩ ?_
    refine W.eq (g2 := F0 m 9 ls [.int (F (i + 0))]) rfl ?_
    refine lv_bipush (v := nI 106) hx hb dX3_fits_9 (by decide) ?_
    refine lv_icmp_ne (tgt := 18) hx hb dX3_fits_11 (by decide) (fun c5 => ?_) (fun c5 => ?_)
    ·
      refine lv_iconst (v := nI 0) hx hb dX3_fits_18 (by decide) ?_
      exact hret _ _ _ ((bI_f (fun h : fitP (fun t => F (i + t)) M p0 => c5 (h.1 c1))).symm) dX3_fits_19
    ·
      refine lv_iconst (v := nI 1) hx hb dX3_fits_14 (by decide) ?_
      refine lv_goto (tgt := 19) hx hb dX3_fits_15 (by decide) ?_
      exact hret _ _ _ ((bI_t (show fitP (fun t => F (i + t)) M p0 from ⟨fun _ => c5, fun h => absurd h (by omega), fun h => absurd c1 h, fun h => absurd c1 h⟩)).symm) dX3_fits_19

theorem ixX3_firstFault_X3 : ∀ w ∈ wsX30, w ∈ wsX3_firstFault := fun _ h => List.mem_cons_of_mem _ (List.mem_append_left _ (List.mem_append_right _ h))
theorem lkX3_firstFault_19 : Cond.fieldLink RX3 19 (TX3 2).1 (TX3 2).2.1 (TX3 2).2.2.1 ∈ wsX3_firstFault := List.mem_of_getElem? (i := 1) rfl
theorem lkX3_firstFault_31 : Cond.fieldLink RX3 31 (TX3 4).1 (TX3 4).2.1 (TX3 4).2.2.1 ∈ wsX3_firstFault := List.mem_of_getElem? (i := 2) rfl
set_option maxHeartbeats 4000000 in
set_option maxRecDepth 100000 in
theorem kX3_firstFault (l : Launch) (G : Gl) (tt : Nat) (sh : Nat) (sc : Nat) (ln : Int32) (L : Nat) (F : Nat → Int32) (i : Nat) (n : Nat) (M : Nat) (hM0 : M = 0 ∨ 2 ≤ M) (hM : M ≤ 5) (hin9 : i + n ≤ 60) : Rd l G yX3_firstFault wsX3_firstFault ({ frames := 3, cells := 0, slots := 0, locals := 66 } : Room) [.ref tt] [(tt, .inr (3, [.ref sh, .int (nI i), .int (nI n), .int (nI M), .int (nI (2 + M * (M + 1)))])), (sh, .inr (1, [.ref sc, .int ln, .int (nI L)])), (sc, aI G 60 F)] (some (.int (ffv (fun t => F (i + t)) M n))) := by
  refine Rd.ofI (cc := cX3_firstFault) (maxL := 2) (by decide) rfl (Nat.le_of_ble_eq_true rfl) ?_
  intro p e s m below meth c Q ls hE hP hK hl hret
  obtain ⟨hx, hb, hml, hown, hts⟩ := id hE
  have hl : lv_has ls 2 [(0, .ref tt)] := hl
  have hmm := mm_le M hM
  refine lv_iconst (v := nI 0) hx hb dX3_firstFault_0 (by decide) ?_
  refine lv_istore_n (lv' := [(1, .int (nI 0)), (0, .ref tt)]) hx hb dX3_firstFault_1 rfl hl (by decide) rfl (fun ls hl => ?_)
  have loop1 : ∀ (d k : Nat) (ls : Array Slot), n < k + d → k ≤ n → (fi (fun p => ¬ fitP (fun t => F (i + t)) M p) k = none) → lv_has ls 2 [(1, .int (nI k)), (0, .ref tt)] → W p l e ({ frames := 3, cells := 0, slots := 0, locals := 66 } : Room) s m ([.ref tt] : List Value).toArray below meth c s.heap [] 0 0 Q (F0 m 2 ls []) := by
    intro d
    induction d with
    | zero =>
      intro k ls h1 h2
      omega
    | succ d ih1 =>
      intro k ls hdk hbk hk hl
      refine lv_iload_n hx hb dX3_firstFault_2 rfl (lv_at hl 0 rfl) ?_
      refine lv_aload_n hx hb dX3_firstFault_3 rfl (lv_at hl 1 rfl) ?_
      refine g_get (v := .int (nI n)) hx hb hts ixX3_firstFault_X3 hown hK hP 0 rfl rfl 2 (by decide) lkX3_firstFault_19 rfl dX3_firstFault_4 ?_
      refine ic_ge (tgt := 26) hx hb (by omega) (by omega) dX3_firstFault_7 (by decide) (fun c1 => ?_) (fun c1 => ?_)
      ·
        obtain rfl : n = k := by omega
        refine lv_aload_n hx hb dX3_firstFault_26 rfl (lv_at hl 1 rfl) ?_
        refine g_get (v := .int (nI n)) hx hb hts ixX3_firstFault_X3 hown hK hP 0 rfl rfl 2 (by decide) lkX3_firstFault_19 rfl dX3_firstFault_27 ?_
        refine lv_aload_n hx hb dX3_firstFault_30 rfl (lv_at hl 1 rfl) ?_
        refine g_get (v := .int (nI (2 + M * (M + 1)))) hx hb hts ixX3_firstFault_X3 hown hK hP 0 rfl rfl 4 (by decide) lkX3_firstFault_31 rfl dX3_firstFault_31 ?_
        refine lv_isub hx hb dX3_firstFault_34 ?_
        rcases Nat.lt_or_ge (2 + M * (M + 1)) n with hfb | hfb
        ·
          refine lv_tope (show nI n - nI (2 + M * (M + 1)) = nI (n - (2 + M * (M + 1))) from pk_sub (by omega)) ?_
          refine lv_istore_n (lv' := [(1, .int (nI (n - (2 + M * (M + 1))))), (0, .ref tt)]) hx hb dX3_firstFault_35 rfl hl (by decide) rfl (fun ls hl => ?_)
          refine lv_iload_n hx hb dX3_firstFault_36 rfl (lv_at hl 0 rfl) ?_
          refine iz_le (tgt := 51) hx hb (by omega) dX3_firstFault_37 (by decide) (fun c2 => ?_) (fun c2 => ?_)
          ·
            refine lv_aload_n hx hb dX3_firstFault_51 rfl (lv_at hl 1 rfl) ?_
            refine g_get (v := .int (nI n)) hx hb hts ixX3_firstFault_X3 hown hK hP 0 rfl rfl 2 (by decide) lkX3_firstFault_19 rfl dX3_firstFault_52 ?_
            exact hret _ _ _ (by unfold ffv ffo; rw [hk]; exact (iF_f (show ¬ cmpl M n from fun h => by have q1 := h.1; have q2 := h.2; omega)).symm) dX3_firstFault_55
          ·
            refine lv_iload_n hx hb dX3_firstFault_40 rfl (lv_at hl 0 rfl) ?_
            refine lv_iconst (v := nI 3) hx hb dX3_firstFault_41 (by decide) ?_
            refine lv_irem hx hb dX3_firstFault_42 (by decide) ?_
            refine lv_tope (show (nI (n - (2 + M * (M + 1)))) - (nI (n - (2 + M * (M + 1)))) / (nI 3) * (nI 3) = nI ((n - (2 + M * (M + 1))) % 3) from pk_rem (by omega) (by omega) (by omega)) ?_
            refine iz_ne (tgt := 51) hx hb (by omega) dX3_firstFault_43 (by decide) (fun c3 => ?_) (fun c3 => ?_)
            ·
              refine lv_aload_n hx hb dX3_firstFault_51 rfl (lv_at hl 1 rfl) ?_
              refine g_get (v := .int (nI n)) hx hb hts ixX3_firstFault_X3 hown hK hP 0 rfl rfl 2 (by decide) lkX3_firstFault_19 rfl dX3_firstFault_52 ?_
              exact hret _ _ _ (by unfold ffv ffo; rw [hk]; exact (iF_f (show ¬ cmpl M n from fun h => by have q1 := h.1; have q2 := h.2; omega)).symm) dX3_firstFault_55
            ·
              refine lv_bipush (v := (-9)) hx hb dX3_firstFault_46 (by decide) ?_
              refine lv_goto (tgt := 55) hx hb dX3_firstFault_48 (by decide) ?_
              exact hret _ _ _ (by unfold ffv ffo; rw [hk]; exact (iF_t (show cmpl M n from ⟨by omega, by omega⟩)).symm) dX3_firstFault_55
        ·
          refine lv_istore_n (lv' := [(1, .int (nI n - nI (2 + M * (M + 1)))), (0, .ref tt)]) hx hb dX3_firstFault_35 rfl hl (by decide) rfl (fun ls hl => ?_)
          refine lv_iload_n hx hb dX3_firstFault_36 rfl (lv_at hl 0 rfl) ?_
          refine lv_if_le (tgt := 51) hx hb dX3_firstFault_37 (by decide) (fun c4 => ?_) (fun c4 => ?_)
          ·
            refine lv_aload_n hx hb dX3_firstFault_51 rfl (lv_at hl 1 rfl) ?_
            refine g_get (v := .int (nI n)) hx hb hts ixX3_firstFault_X3 hown hK hP 0 rfl rfl 2 (by decide) lkX3_firstFault_19 rfl dX3_firstFault_52 ?_
            exact hret _ _ _ (by unfold ffv ffo; rw [hk]; exact (iF_f (show ¬ cmpl M n from fun h => by have q1 := h.1; have q2 := h.2; omega)).symm) dX3_firstFault_55
          ·
            exact absurd (nsub_le (by omega) (by omega)) c4
      ·
        refine lv_aload_n hx hb dX3_firstFault_10 rfl (lv_at hl 1 rfl) ?_
        refine lv_iload_n hx hb dX3_firstFault_11 rfl (lv_at hl 0 rfl) ?_
        refine rdV (As := [.int (nI k)]) (rest := []) (ci := 3) (q0 := 0) hE (kX3_fits l G tt sh sc ln L F i n M k hM0 hM (fun h => by have q := Classical.not_not.mp (fi_none.mp hk 1 (by omega)); have q1 := q.2.1 rfl; omega) (by first | omega | assumption)) (cwV 1 hts gX3_firstFault_X3_fits rfl rfl rfl (by decide +kernel) ⟨Nat.le_of_ble_eq_true rfl, Nat.le_of_ble_eq_true rfl⟩) hP hK [0, 1, 2] rfl rfl rfl rfl hl.1 rfl (Nat.le_of_ble_eq_true rfl) dX3_firstFault_12 ⟨Nat.zero_le _, Nat.zero_le _⟩ ?_
        refine W.eq (g2 := F0 m 15 ls [.int (bI (fitP (fun t => F (i + t)) M k))]) rfl ?_
        refine bz_ne (tgt := 20) hx hb dX3_firstFault_15 (by decide) (fun c5 => ?_) (fun c5 => ?_)
        ·
          refine lv_iinc (v := nI (k + 1)) (lv' := [(1, .int (nI (k + 1))), (0, .ref tt)]) hx hb dX3_firstFault_20 hl (k := 0) rfl (show nI k + Int32.ofInt 1 = nI (k + 1) from nI_add _ 1) (by decide) rfl (fun ls hl => ?_)
          refine lv_goto (tgt := 2) hx hb dX3_firstFault_23 (by decide) ?_
          exact ih1 (k + 1) ls (by omega) (by omega) (fi_miss hk (fun h => h c5)) (lv_sub hl [0, 1] rfl)
        ·
          refine lv_iload_n hx hb dX3_firstFault_18 rfl (lv_at hl 0 rfl) ?_
          exact hret _ _ _ (by unfold ffv ffo; rw [fi_hit hk c5 (by omega)]; rfl) dX3_firstFault_19
  exact loop1 (n + 1) 0 ls (by omega) (by omega) rfl (lv_sub hl [0, 1] rfl)

theorem ixX3_settle_X3 : ∀ w ∈ wsX30, w ∈ wsX3_settle := fun _ h => List.mem_cons_of_mem _ (List.mem_append_left _ (List.mem_append_left _ (List.mem_append_right _ h)))
theorem lkX3_settle_28 : Cond.fieldLink RX3 28 (TX3 3).1 (TX3 3).2.1 (TX3 3).2.2.1 ∈ wsX3_settle := List.mem_of_getElem? (i := 1) rfl
theorem ixX3_settle_X2 : ∀ w ∈ wsX20, w ∈ wsX3_settle := fun _ h => List.mem_cons_of_mem _ (List.mem_append_left _ (List.mem_append_right _ h))
theorem lkX3_settle_19 : Cond.fieldLink RX3 19 (TX3 2).1 (TX3 2).2.1 (TX3 2).2.2.1 ∈ wsX3_settle := List.mem_of_getElem? (i := 2) rfl
theorem lkX3_settle_31 : Cond.fieldLink RX3 31 (TX3 4).1 (TX3 4).2.1 (TX3 4).2.2.1 ∈ wsX3_settle := List.mem_of_getElem? (i := 3) rfl
set_option maxHeartbeats 4000000 in
set_option maxRecDepth 100000 in
theorem kX3_settle (l : Launch) (G : Gl) (tt : Nat) (sh : Nat) (sc : Nat) (ln : Int32) (L : Nat) (F : Nat → Int32) (i : Nat) (n : Nat) (M : Nat) (B : Nat) (t : Nat) (ap : Nat) (ak : Nat) (ao : Nat) (tM : Int32) (tB : Int32) (P : Nat → Int32) (K : Nat → Int32) (U : Nat → Int32) (hM2 : 2 ≤ M) (hM : M ≤ 5) (hin9 : i + n ≤ 60) (hfb : 2 + M * (M + 1) < n) (hBn : B = (n - (2 + M * (M + 1))) / 3) (hB : B ≤ 4) : Wt l G yX3_settle wsX3_settle ({ frames := 1, cells := 0, slots := 0, locals := 23 } : Room) [.ref tt, .ref t] [(tt, .inr (3, [.ref sh, .int (nI i), .int (nI n), .int (nI M), .int (nI (2 + M * (M + 1)))])), (sh, .inr (1, [.ref sc, .int ln, .int (nI L)])), (sc, aI G 60 F), (t, .inr (2, [.ref ap, .ref ak, .ref ao, .int tM, .int tB])), (ap, aI G 25 P), (ak, aI G 4 K), (ao, aI G 4 U)] [(tt, .inr (3, [.ref sh, .int (nI i), .int (nI n), .int (nI M), .int (nI (2 + M * (M + 1)))])), (sh, .inr (1, [.ref sc, .int ln, .int (nI L)])), (sc, aI G 60 F), (t, .inr (2, [.ref ap, .ref ak, .ref ao, .int (nI M), .int (nI B)])), (ap, aI G 25 (spO P (fun t => F (i + t)) M M)), (ak, aI G 4 (skK K (fun t => F (i + t)) M B)), (ao, aI G 4 (skU U (fun t => F (i + t)) M B))] none := by
  refine Wt.ofV (cc := cX3_settle) (maxL := 4) (by decide) rfl (Nat.le_of_ble_eq_true rfl) ?_
  intro p e s m below meth c Q A ls hE hin hP hK hD hS hl hret
  obtain ⟨hx, hb, hml, hown, hts⟩ := id hE
  have hl : lv_has ls 4 [(0, .ref tt), (1, .ref t)] := hl
  have hmm := mm_le M hM
  refine lv_aload_n hx hb dX3_settle_0 rfl (lv_at hl 1 rfl) ?_
  refine lv_aload_n hx hb dX3_settle_1 rfl (lv_at hl 0 rfl) ?_
  refine g_get (v := .int (nI M)) hx hb hts ixX3_settle_X3 hown hK hP 0 rfl rfl 3 (by decide) lkX3_settle_28 rfl dX3_settle_2 ?_
  refine g_putN (v := (nI M)) hx hb hts ixX3_settle_X2 tyX2 tyX2_ok nmX2 hown hK hP hD hS 3 rfl rfl 3 (by decide) nkX3_48 rfl rfl (Nat.le_of_ble_eq_true rfl) dX3_settle_5 (fun H locs hP hD hS => ?_)
  have hP : va_P G.1 vwCl [(tt, .inr (3, [.ref sh, .int (nI i), .int (nI n), .int (nI M), .int (nI (2 + M * (M + 1)))])), (sh, .inr (1, [.ref sc, .int ln, .int (nI L)])), (sc, aI G 60 F), (t, .inr (2, [.ref ap, .ref ak, .ref ao, .int (nI M), .int tB])), (ap, aI G 25 P), (ak, aI G 4 K), (ao, aI G 4 U)] H := hP
  have hD : va_D A [(tt, .inr (3, [.ref sh, .int (nI i), .int (nI n), .int (nI M), .int (nI (2 + M * (M + 1)))])), (sh, .inr (1, [.ref sc, .int ln, .int (nI L)])), (sc, aI G 60 F), (t, .inr (2, [.ref ap, .ref ak, .ref ao, .int (nI M), .int tB])), (ap, aI G 25 P), (ak, aI G 4 K), (ao, aI G 4 U)] := hD
  refine lv_iconst (v := nI 0) hx hb dX3_settle_8 (by decide) ?_
  refine lv_istore_n (lv' := [(2, .int (nI 0)), (0, .ref tt), (1, .ref t)]) hx hb dX3_settle_9 rfl hl (by decide) rfl (fun ls hl => ?_)
  have loop1 : ∀ (d a : Nat) (H : Heap) (locs : List Loc) (ls : Array Slot), M < a + d → a ≤ M → va_P G.1 vwCl [(tt, .inr (3, [.ref sh, .int (nI i), .int (nI n), .int (nI M), .int (nI (2 + M * (M + 1)))])), (sh, .inr (1, [.ref sc, .int ln, .int (nI L)])), (sc, aI G 60 F), (t, .inr (2, [.ref ap, .ref ak, .ref ao, .int (nI M), .int tB])), (ap, aI G 25 (spO P (fun t => F (i + t)) M a)), (ak, aI G 4 K), (ao, aI G 4 U)] H → va_D A [(tt, .inr (3, [.ref sh, .int (nI i), .int (nI n), .int (nI M), .int (nI (2 + M * (M + 1)))])), (sh, .inr (1, [.ref sc, .int ln, .int (nI L)])), (sc, aI G 60 F), (t, .inr (2, [.ref ap, .ref ak, .ref ao, .int (nI M), .int tB])), (ap, aI G 25 (spO P (fun t => F (i + t)) M a)), (ak, aI G 4 K), (ao, aI G 4 U)] → va_S A s.heap H locs → lv_has ls 4 [(2, .int (nI a)), (0, .ref tt), (1, .ref t)] → W p l e ({ frames := 1, cells := 0, slots := 0, locals := 23 } : Room) s m ([.ref tt, .ref t] : List Value).toArray below meth c H locs 0 0 Q (F0 m 10 ls []) := by
    intro d
    induction d with
    | zero =>
      intro a H locs ls h1 h2
      omega
    | succ d ih1 =>
      intro a H locs ls hda hba hP hD hS hl
      refine lv_iload_n hx hb dX3_settle_10 rfl (lv_at hl 0 rfl) ?_
      refine lv_aload_n hx hb dX3_settle_11 rfl (lv_at hl 1 rfl) ?_
      refine g_get (v := .int (nI M)) hx hb hts ixX3_settle_X3 hown hK hP 0 rfl rfl 3 (by decide) lkX3_settle_28 rfl dX3_settle_12 ?_
      refine ic_ge (tgt := 67) hx hb (by omega) (by omega) dX3_settle_15 (by decide) (fun c1 => ?_) (fun c1 => ?_)
      ·
        obtain rfl : M = a := by omega
        refine lv_aload_n hx hb dX3_settle_67 rfl (lv_at hl 2 rfl) ?_
        refine lv_aload_n hx hb dX3_settle_68 rfl (lv_at hl 1 rfl) ?_
        refine g_get (v := .int (nI n)) hx hb hts ixX3_settle_X3 hown hK hP 0 rfl rfl 2 (by decide) lkX3_settle_19 rfl dX3_settle_69 ?_
        refine lv_aload_n hx hb dX3_settle_72 rfl (lv_at hl 1 rfl) ?_
        refine g_get (v := .int (nI (2 + M * (M + 1)))) hx hb hts ixX3_settle_X3 hown hK hP 0 rfl rfl 4 (by decide) lkX3_settle_31 rfl dX3_settle_73 ?_
        refine lv_isub hx hb dX3_settle_76 ?_
        refine lv_tope (show (nI n) - (nI (2 + M * (M + 1))) = nI (n - (2 + M * (M + 1))) from pk_sub (by omega)) ?_
        refine lv_iconst (v := nI 3) hx hb dX3_settle_77 (by decide) ?_
        refine lv_idiv hx hb dX3_settle_78 (by decide) ?_
        refine lv_tope (show (nI (n - (2 + M * (M + 1)))) / (nI 3) = nI ((n - (2 + M * (M + 1))) / 3) from pk_div (by omega) (by omega) (by omega)) ?_
        refine lv_tope (show nI ((n - (2 + M * (M + 1))) / 3) = nI B from by rw [hBn]) ?_
        refine g_putN (v := (nI B)) hx hb hts ixX3_settle_X2 tyX2 tyX2_ok nmX2 hown hK hP hD hS 3 rfl rfl 4 (by decide) nkX3_55 rfl rfl (Nat.le_of_ble_eq_true rfl) dX3_settle_79 (fun H locs hP hD hS => ?_)
        have hP : va_P G.1 vwCl [(tt, .inr (3, [.ref sh, .int (nI i), .int (nI n), .int (nI M), .int (nI (2 + M * (M + 1)))])), (sh, .inr (1, [.ref sc, .int ln, .int (nI L)])), (sc, aI G 60 F), (t, .inr (2, [.ref ap, .ref ak, .ref ao, .int (nI M), .int (nI B)])), (ap, aI G 25 (spO P (fun t => F (i + t)) M M)), (ak, aI G 4 K), (ao, aI G 4 U)] H := hP
        have hD : va_D A [(tt, .inr (3, [.ref sh, .int (nI i), .int (nI n), .int (nI M), .int (nI (2 + M * (M + 1)))])), (sh, .inr (1, [.ref sc, .int ln, .int (nI L)])), (sc, aI G 60 F), (t, .inr (2, [.ref ap, .ref ak, .ref ao, .int (nI M), .int (nI B)])), (ap, aI G 25 (spO P (fun t => F (i + t)) M M)), (ak, aI G 4 K), (ao, aI G 4 U)] := hD
        refine lv_iconst (v := nI 0) hx hb dX3_settle_82 (by decide) ?_
        refine lv_istore_n (lv' := [(2, .int (nI 0)), (0, .ref tt), (1, .ref t)]) hx hb dX3_settle_83 rfl hl (by decide) rfl (fun ls hl => ?_)
        have loop2 : ∀ (d d0 : Nat) (H : Heap) (locs : List Loc) (ls : Array Slot), B < d0 + d → d0 ≤ B → va_P G.1 vwCl [(tt, .inr (3, [.ref sh, .int (nI i), .int (nI n), .int (nI M), .int (nI (2 + M * (M + 1)))])), (sh, .inr (1, [.ref sc, .int ln, .int (nI L)])), (sc, aI G 60 F), (t, .inr (2, [.ref ap, .ref ak, .ref ao, .int (nI M), .int (nI B)])), (ap, aI G 25 (spO P (fun t => F (i + t)) M M)), (ak, aI G 4 (skK K (fun t => F (i + t)) M d0)), (ao, aI G 4 (skU U (fun t => F (i + t)) M d0))] H → va_D A [(tt, .inr (3, [.ref sh, .int (nI i), .int (nI n), .int (nI M), .int (nI (2 + M * (M + 1)))])), (sh, .inr (1, [.ref sc, .int ln, .int (nI L)])), (sc, aI G 60 F), (t, .inr (2, [.ref ap, .ref ak, .ref ao, .int (nI M), .int (nI B)])), (ap, aI G 25 (spO P (fun t => F (i + t)) M M)), (ak, aI G 4 (skK K (fun t => F (i + t)) M d0)), (ao, aI G 4 (skU U (fun t => F (i + t)) M d0))] → va_S A s.heap H locs → lv_has ls 4 [(2, .int (nI d0)), (0, .ref tt), (1, .ref t)] → W p l e ({ frames := 1, cells := 0, slots := 0, locals := 23 } : Room) s m ([.ref tt, .ref t] : List Value).toArray below meth c H locs 0 0 Q (F0 m 84 ls []) := by
          intro d
          induction d with
          | zero =>
            intro d0 H locs ls h1 h2
            omega
          | succ d ih2 =>
            intro d0 H locs ls hdd0 hbd0 hP hD hS hl
            refine lv_iload_n hx hb dX3_settle_84 rfl (lv_at hl 0 rfl) ?_
            refine lv_aload_n hx hb dX3_settle_85 rfl (lv_at hl 2 rfl) ?_
            refine g_getN (v := .int (nI B)) hx hb hts ixX3_settle_X2 hown hK hP 3 rfl rfl 4 (by decide) nkX3_55 rfl dX3_settle_86 ?_
            refine ic_ge (tgt := 144) hx hb (by omega) (by omega) dX3_settle_89 (by decide) (fun c2 => ?_) (fun c2 => ?_)
            ·
              obtain rfl : B = d0 := by omega
              exact hret _ _ _ _ (hP) hS dX3_settle_144
            ·
              refine lv_aload_n hx hb dX3_settle_92 rfl (lv_at hl 2 rfl) ?_
              refine g_getN (v := .ref ak) hx hb hts ixX3_settle_X2 hown hK hP 3 rfl rfl 1 (by decide) nkX3_58 rfl dX3_settle_93 ?_
              refine lv_iload_n hx hb dX3_settle_96 rfl (lv_at hl 0 rfl) ?_
              refine lv_aload_n hx hb dX3_settle_97 rfl (lv_at hl 1 rfl) ?_
              refine lv_aload_n hx hb dX3_settle_98 rfl (lv_at hl 1 rfl) ?_
              refine g_get (v := .int (nI (2 + M * (M + 1)))) hx hb hts ixX3_settle_X3 hown hK hP 0 rfl rfl 4 (by decide) lkX3_settle_31 rfl dX3_settle_99 ?_
              refine lv_iload_n hx hb dX3_settle_102 rfl (lv_at hl 0 rfl) ?_
              refine lv_iconst (v := nI 3) hx hb dX3_settle_103 (by decide) ?_
              refine lv_imul hx hb dX3_settle_104 ?_
              refine lv_tope (show (nI d0) * (nI 3) = nI (d0 * 3) from pk_mul _ _) ?_
              refine lv_iadd hx hb dX3_settle_105 ?_
              refine lv_tope (show (nI (2 + M * (M + 1))) + (nI (d0 * 3)) = nI ((2 + M * (M + 1)) + (d0 * 3)) from nI_add _ _) ?_
              refine lv_iconst (v := nI 1) hx hb dX3_settle_106 (by decide) ?_
              refine lv_iadd hx hb dX3_settle_107 ?_
              refine lv_tope (show (nI ((2 + M * (M + 1)) + (d0 * 3))) + (nI 1) = nI (((2 + M * (M + 1)) + (d0 * 3)) + 1) from nI_add _ _) ?_
              refine rdV (As := [.int (nI (((2 + M * (M + 1)) + (d0 * 3)) + 1))]) (rest := [.int (nI d0), .ref ak]) (ci := 3) (q0 := 0) hE (kX3_code l G tt sh sc ln L F i n M (((2 + M * (M + 1)) + (d0 * 3)) + 1) (by omega)) (cwV 1 hts gX3_settle_X3_code rfl rfl rfl (by decide +kernel) ⟨Nat.le_of_ble_eq_true rfl, Nat.le_of_ble_eq_true rfl⟩) hP hK [0, 1, 2] rfl rfl rfl rfl hl.1 rfl (Nat.le_of_ble_eq_true rfl) dX3_settle_108 ⟨Nat.zero_le _, Nat.zero_le _⟩ ?_
              refine W.eq (g2 := F0 m 111 ls [.int (F (i + (((2 + M * (M + 1)) + (d0 * 3)) + 1))), .int (nI d0), .ref ak]) rfl ?_
              refine lv_bipush (v := nI 98) hx hb dX3_settle_111 (by decide) ?_
              refine lv_isub hx hb dX3_settle_113 ?_
              refine n_ast hx hb hK hP hD hS 5 rfl (k := d0) (by omega) (by decide) dX3_settle_114 (fun H locs hP hD hS => ?_)
              have hP : va_P G.1 vwCl [(tt, .inr (3, [.ref sh, .int (nI i), .int (nI n), .int (nI M), .int (nI (2 + M * (M + 1)))])), (sh, .inr (1, [.ref sc, .int ln, .int (nI L)])), (sc, aI G 60 F), (t, .inr (2, [.ref ap, .ref ak, .ref ao, .int (nI M), .int (nI B)])), (ap, aI G 25 (spO P (fun t => F (i + t)) M M)), (ak, aI G 4 (upd (skK K (fun t => F (i + t)) M d0) d0 ((F (i + (((2 + M * (M + 1)) + (d0 * 3)) + 1))) - (nI 98)))), (ao, aI G 4 (skU U (fun t => F (i + t)) M d0))] H := hP
              have hD : va_D A [(tt, .inr (3, [.ref sh, .int (nI i), .int (nI n), .int (nI M), .int (nI (2 + M * (M + 1)))])), (sh, .inr (1, [.ref sc, .int ln, .int (nI L)])), (sc, aI G 60 F), (t, .inr (2, [.ref ap, .ref ak, .ref ao, .int (nI M), .int (nI B)])), (ap, aI G 25 (spO P (fun t => F (i + t)) M M)), (ak, aI G 4 (upd (skK K (fun t => F (i + t)) M d0) d0 ((F (i + (((2 + M * (M + 1)) + (d0 * 3)) + 1))) - (nI 98)))), (ao, aI G 4 (skU U (fun t => F (i + t)) M d0))] := hD
              refine lv_aload_n hx hb dX3_settle_115 rfl (lv_at hl 2 rfl) ?_
              refine g_getN (v := .ref ao) hx hb hts ixX3_settle_X2 hown hK hP 3 rfl rfl 2 (by decide) nkX3_61 rfl dX3_settle_116 ?_
              refine lv_iload_n hx hb dX3_settle_119 rfl (lv_at hl 0 rfl) ?_
              refine lv_aload_n hx hb dX3_settle_120 rfl (lv_at hl 1 rfl) ?_
              refine lv_aload_n hx hb dX3_settle_121 rfl (lv_at hl 1 rfl) ?_
              refine g_get (v := .int (nI (2 + M * (M + 1)))) hx hb hts ixX3_settle_X3 hown hK hP 0 rfl rfl 4 (by decide) lkX3_settle_31 rfl dX3_settle_122 ?_
              refine lv_iload_n hx hb dX3_settle_125 rfl (lv_at hl 0 rfl) ?_
              refine lv_iconst (v := nI 3) hx hb dX3_settle_126 (by decide) ?_
              refine lv_imul hx hb dX3_settle_127 ?_
              refine lv_tope (show (nI d0) * (nI 3) = nI (d0 * 3) from pk_mul _ _) ?_
              refine lv_iadd hx hb dX3_settle_128 ?_
              refine lv_tope (show (nI (2 + M * (M + 1))) + (nI (d0 * 3)) = nI ((2 + M * (M + 1)) + (d0 * 3)) from nI_add _ _) ?_
              refine lv_iconst (v := nI 2) hx hb dX3_settle_129 (by decide) ?_
              refine lv_iadd hx hb dX3_settle_130 ?_
              refine lv_tope (show (nI ((2 + M * (M + 1)) + (d0 * 3))) + (nI 2) = nI (((2 + M * (M + 1)) + (d0 * 3)) + 2) from nI_add _ _) ?_
              refine rdV (As := [.int (nI (((2 + M * (M + 1)) + (d0 * 3)) + 2))]) (rest := [.int (nI d0), .ref ao]) (ci := 3) (q0 := 0) hE (kX3_code l G tt sh sc ln L F i n M (((2 + M * (M + 1)) + (d0 * 3)) + 2) (by omega)) (cwV 1 hts gX3_settle_X3_code rfl rfl rfl (by decide +kernel) ⟨Nat.le_of_ble_eq_true rfl, Nat.le_of_ble_eq_true rfl⟩) hP hK [0, 1, 2] rfl rfl rfl rfl hl.1 rfl (Nat.le_of_ble_eq_true rfl) dX3_settle_131 ⟨Nat.zero_le _, Nat.zero_le _⟩ ?_
              refine W.eq (g2 := F0 m 134 ls [.int (F (i + (((2 + M * (M + 1)) + (d0 * 3)) + 2))), .int (nI d0), .ref ao]) rfl ?_
              refine lv_bipush (v := nI 48) hx hb dX3_settle_134 (by decide) ?_
              refine lv_isub hx hb dX3_settle_136 ?_
              refine n_ast hx hb hK hP hD hS 6 rfl (k := d0) (by omega) (by decide) dX3_settle_137 (fun H locs hP hD hS => ?_)
              have hP : va_P G.1 vwCl [(tt, .inr (3, [.ref sh, .int (nI i), .int (nI n), .int (nI M), .int (nI (2 + M * (M + 1)))])), (sh, .inr (1, [.ref sc, .int ln, .int (nI L)])), (sc, aI G 60 F), (t, .inr (2, [.ref ap, .ref ak, .ref ao, .int (nI M), .int (nI B)])), (ap, aI G 25 (spO P (fun t => F (i + t)) M M)), (ak, aI G 4 (upd (skK K (fun t => F (i + t)) M d0) d0 ((F (i + (((2 + M * (M + 1)) + (d0 * 3)) + 1))) - (nI 98)))), (ao, aI G 4 (upd (skU U (fun t => F (i + t)) M d0) d0 ((F (i + (((2 + M * (M + 1)) + (d0 * 3)) + 2))) - (nI 48))))] H := hP
              have hD : va_D A [(tt, .inr (3, [.ref sh, .int (nI i), .int (nI n), .int (nI M), .int (nI (2 + M * (M + 1)))])), (sh, .inr (1, [.ref sc, .int ln, .int (nI L)])), (sc, aI G 60 F), (t, .inr (2, [.ref ap, .ref ak, .ref ao, .int (nI M), .int (nI B)])), (ap, aI G 25 (spO P (fun t => F (i + t)) M M)), (ak, aI G 4 (upd (skK K (fun t => F (i + t)) M d0) d0 ((F (i + (((2 + M * (M + 1)) + (d0 * 3)) + 1))) - (nI 98)))), (ao, aI G 4 (upd (skU U (fun t => F (i + t)) M d0) d0 ((F (i + (((2 + M * (M + 1)) + (d0 * 3)) + 2))) - (nI 48))))] := hD
              refine lv_iinc (v := nI (d0 + 1)) (lv' := [(2, .int (nI (d0 + 1))), (0, .ref tt), (1, .ref t)]) hx hb dX3_settle_138 hl (k := 0) rfl (show nI d0 + Int32.ofInt 1 = nI (d0 + 1) from nI_add _ 1) (by decide) rfl (fun ls hl => ?_)
              refine lv_goto (tgt := 84) hx hb dX3_settle_141 (by decide) ?_
              have hP3 : va_P G.1 vwCl [(tt, .inr (3, [.ref sh, .int (nI i), .int (nI n), .int (nI M), .int (nI (2 + M * (M + 1)))])), (sh, .inr (1, [.ref sc, .int ln, .int (nI L)])), (sc, aI G 60 F), (t, .inr (2, [.ref ap, .ref ak, .ref ao, .int (nI M), .int (nI B)])), (ap, aI G 25 (spO P (fun t => F (i + t)) M M)), (ak, aI G 4 (skK K (fun t => F (i + t)) M (d0 + 1))), (ao, aI G 4 (skU U (fun t => F (i + t)) M (d0 + 1)))] H := by
                rw [show (skK K (fun t => F (i + t)) M (d0 + 1)) = (upd (skK K (fun t => F (i + t)) M d0) d0 ((F (i + (((2 + M * (M + 1)) + (d0 * 3)) + 1))) - (nI 98))) from by first | rfl | simp only [skK, skU, iF_f (Nat.not_lt.mpr c1), iF_t c2]]
                rw [show (skU U (fun t => F (i + t)) M (d0 + 1)) = (upd (skU U (fun t => F (i + t)) M d0) d0 ((F (i + (((2 + M * (M + 1)) + (d0 * 3)) + 2))) - (nI 48))) from by first | rfl | simp only [skK, skU, iF_f (Nat.not_lt.mpr c1), iF_t c2]]
                exact hP
              have hD3 : va_D A [(tt, .inr (3, [.ref sh, .int (nI i), .int (nI n), .int (nI M), .int (nI (2 + M * (M + 1)))])), (sh, .inr (1, [.ref sc, .int ln, .int (nI L)])), (sc, aI G 60 F), (t, .inr (2, [.ref ap, .ref ak, .ref ao, .int (nI M), .int (nI B)])), (ap, aI G 25 (spO P (fun t => F (i + t)) M M)), (ak, aI G 4 (skK K (fun t => F (i + t)) M (d0 + 1))), (ao, aI G 4 (skU U (fun t => F (i + t)) M (d0 + 1)))] := by
                rw [show (skK K (fun t => F (i + t)) M (d0 + 1)) = (upd (skK K (fun t => F (i + t)) M d0) d0 ((F (i + (((2 + M * (M + 1)) + (d0 * 3)) + 1))) - (nI 98))) from by first | rfl | simp only [skK, skU, iF_f (Nat.not_lt.mpr c1), iF_t c2]]
                rw [show (skU U (fun t => F (i + t)) M (d0 + 1)) = (upd (skU U (fun t => F (i + t)) M d0) d0 ((F (i + (((2 + M * (M + 1)) + (d0 * 3)) + 2))) - (nI 48))) from by first | rfl | simp only [skK, skU, iF_f (Nat.not_lt.mpr c1), iF_t c2]]
                exact hD
              exact ih2 (d0 + 1) H locs ls (by omega) (by omega) hP3 hD3 hS (lv_sub hl [0, 1, 2] rfl)
        have hP4 : va_P G.1 vwCl [(tt, .inr (3, [.ref sh, .int (nI i), .int (nI n), .int (nI M), .int (nI (2 + M * (M + 1)))])), (sh, .inr (1, [.ref sc, .int ln, .int (nI L)])), (sc, aI G 60 F), (t, .inr (2, [.ref ap, .ref ak, .ref ao, .int (nI M), .int (nI B)])), (ap, aI G 25 (spO P (fun t => F (i + t)) M M)), (ak, aI G 4 (skK K (fun t => F (i + t)) M 0)), (ao, aI G 4 (skU U (fun t => F (i + t)) M 0))] H := by
          rw [show (skK K (fun t => F (i + t)) M 0) = (K) from by first | rfl | simp only [skK, skU, iF_f (Nat.not_lt.mpr c1)]]
          rw [show (skU U (fun t => F (i + t)) M 0) = (U) from by first | rfl | simp only [skK, skU, iF_f (Nat.not_lt.mpr c1)]]
          exact hP
        have hD4 : va_D A [(tt, .inr (3, [.ref sh, .int (nI i), .int (nI n), .int (nI M), .int (nI (2 + M * (M + 1)))])), (sh, .inr (1, [.ref sc, .int ln, .int (nI L)])), (sc, aI G 60 F), (t, .inr (2, [.ref ap, .ref ak, .ref ao, .int (nI M), .int (nI B)])), (ap, aI G 25 (spO P (fun t => F (i + t)) M M)), (ak, aI G 4 (skK K (fun t => F (i + t)) M 0)), (ao, aI G 4 (skU U (fun t => F (i + t)) M 0))] := by
          rw [show (skK K (fun t => F (i + t)) M 0) = (K) from by first | rfl | simp only [skK, skU, iF_f (Nat.not_lt.mpr c1)]]
          rw [show (skU U (fun t => F (i + t)) M 0) = (U) from by first | rfl | simp only [skK, skU, iF_f (Nat.not_lt.mpr c1)]]
          exact hD
        exact loop2 (B + 1) 0 H locs ls (by omega) (by omega) hP4 hD4 hS (lv_sub hl [0, 1, 2] rfl)
      ·
        refine lv_iconst (v := nI 0) hx hb dX3_settle_18 (by decide) ?_
        refine lv_istore_n (lv' := [(3, .int (nI 0)), (2, .int (nI a)), (0, .ref tt), (1, .ref t)]) hx hb dX3_settle_19 rfl hl (by decide) rfl (fun ls hl => ?_)
        have loop3 : ∀ (d b : Nat) (H : Heap) (locs : List Loc) (ls : Array Slot), M < b + d → b ≤ M → va_P G.1 vwCl [(tt, .inr (3, [.ref sh, .int (nI i), .int (nI n), .int (nI M), .int (nI (2 + M * (M + 1)))])), (sh, .inr (1, [.ref sc, .int ln, .int (nI L)])), (sc, aI G 60 F), (t, .inr (2, [.ref ap, .ref ak, .ref ao, .int (nI M), .int tB])), (ap, aI G 25 (spI (spO P (fun t => F (i + t)) M a) (fun t => F (i + t)) M a b)), (ak, aI G 4 K), (ao, aI G 4 U)] H → va_D A [(tt, .inr (3, [.ref sh, .int (nI i), .int (nI n), .int (nI M), .int (nI (2 + M * (M + 1)))])), (sh, .inr (1, [.ref sc, .int ln, .int (nI L)])), (sc, aI G 60 F), (t, .inr (2, [.ref ap, .ref ak, .ref ao, .int (nI M), .int tB])), (ap, aI G 25 (spI (spO P (fun t => F (i + t)) M a) (fun t => F (i + t)) M a b)), (ak, aI G 4 K), (ao, aI G 4 U)] → va_S A s.heap H locs → lv_has ls 4 [(3, .int (nI b)), (2, .int (nI a)), (0, .ref tt), (1, .ref t)] → W p l e ({ frames := 1, cells := 0, slots := 0, locals := 23 } : Room) s m ([.ref tt, .ref t] : List Value).toArray below meth c H locs 0 0 Q (F0 m 20 ls []) := by
          intro d
          induction d with
          | zero =>
            intro b H locs ls h1 h2
            omega
          | succ d ih3 =>
            intro b H locs ls hdb hbb hP hD hS hl
            refine lv_iload_n hx hb dX3_settle_20 rfl (lv_at hl 0 rfl) ?_
            refine lv_aload_n hx hb dX3_settle_21 rfl (lv_at hl 2 rfl) ?_
            refine g_get (v := .int (nI M)) hx hb hts ixX3_settle_X3 hown hK hP 0 rfl rfl 3 (by decide) lkX3_settle_28 rfl dX3_settle_22 ?_
            refine ic_ge (tgt := 61) hx hb (by omega) (by omega) dX3_settle_25 (by decide) (fun c5 => ?_) (fun c5 => ?_)
            ·
              obtain rfl : M = b := by omega
              refine lv_iinc (v := nI (a + 1)) (lv' := [(2, .int (nI (a + 1))), (3, .int (nI M)), (0, .ref tt), (1, .ref t)]) hx hb dX3_settle_61 hl (k := 1) rfl (show nI a + Int32.ofInt 1 = nI (a + 1) from nI_add _ 1) (by decide) rfl (fun ls hl => ?_)
              refine lv_goto (tgt := 10) hx hb dX3_settle_64 (by decide) ?_
              have hP6 : va_P G.1 vwCl [(tt, .inr (3, [.ref sh, .int (nI i), .int (nI n), .int (nI M), .int (nI (2 + M * (M + 1)))])), (sh, .inr (1, [.ref sc, .int ln, .int (nI L)])), (sc, aI G 60 F), (t, .inr (2, [.ref ap, .ref ak, .ref ao, .int (nI M), .int tB])), (ap, aI G 25 (spO P (fun t => F (i + t)) M (a + 1))), (ak, aI G 4 K), (ao, aI G 4 U)] H := by
                rw [show (spO P (fun t => F (i + t)) M (a + 1)) = (spI (spO P (fun t => F (i + t)) M a) (fun t => F (i + t)) M a M) from by first | rfl | simp only [spO, iF_t c1, iF_f (Nat.not_lt.mpr c5)]]
                exact hP
              have hD6 : va_D A [(tt, .inr (3, [.ref sh, .int (nI i), .int (nI n), .int (nI M), .int (nI (2 + M * (M + 1)))])), (sh, .inr (1, [.ref sc, .int ln, .int (nI L)])), (sc, aI G 60 F), (t, .inr (2, [.ref ap, .ref ak, .ref ao, .int (nI M), .int tB])), (ap, aI G 25 (spO P (fun t => F (i + t)) M (a + 1))), (ak, aI G 4 K), (ao, aI G 4 U)] := by
                rw [show (spO P (fun t => F (i + t)) M (a + 1)) = (spI (spO P (fun t => F (i + t)) M a) (fun t => F (i + t)) M a M) from by first | rfl | simp only [spO, iF_t c1, iF_f (Nat.not_lt.mpr c5)]]
                exact hD
              exact ih1 (a + 1) H locs ls (by omega) (by omega) hP6 hD6 hS (lv_sub hl [0, 2, 3] rfl)
            ·
              refine lv_aload_n hx hb dX3_settle_28 rfl (lv_at hl 3 rfl) ?_
              refine lv_iload_n hx hb dX3_settle_29 rfl (lv_at hl 1 rfl) ?_
              refine lv_iload_n hx hb dX3_settle_30 rfl (lv_at hl 0 rfl) ?_
              refine lv_aload_n hx hb dX3_settle_31 rfl (lv_at hl 2 rfl) ?_
              refine lv_iconst (v := nI 2) hx hb dX3_settle_32 (by decide) ?_
              refine lv_iload_n hx hb dX3_settle_33 rfl (lv_at hl 1 rfl) ?_
              refine lv_aload_n hx hb dX3_settle_34 rfl (lv_at hl 2 rfl) ?_
              refine g_get (v := .int (nI M)) hx hb hts ixX3_settle_X3 hown hK hP 0 rfl rfl 3 (by decide) lkX3_settle_28 rfl dX3_settle_35 ?_
              refine lv_iconst (v := nI 1) hx hb dX3_settle_38 (by decide) ?_
              refine lv_iadd hx hb dX3_settle_39 ?_
              refine lv_tope (show (nI M) + (nI 1) = nI (M + 1) from nI_add _ _) ?_
              refine lv_imul hx hb dX3_settle_40 ?_
              refine lv_tope (show (nI a) * (nI (M + 1)) = nI (a * (M + 1)) from pk_mul _ _) ?_
              refine lv_iadd hx hb dX3_settle_41 ?_
              refine lv_tope (show (nI 2) + (nI (a * (M + 1))) = nI (2 + (a * (M + 1))) from nI_add _ _) ?_
              refine lv_iconst (v := nI 1) hx hb dX3_settle_42 (by decide) ?_
              refine lv_iadd hx hb dX3_settle_43 ?_
              refine lv_tope (show (nI (2 + (a * (M + 1)))) + (nI 1) = nI ((2 + (a * (M + 1))) + 1) from nI_add _ _) ?_
              refine lv_iload_n hx hb dX3_settle_44 rfl (lv_at hl 0 rfl) ?_
              refine lv_iadd hx hb dX3_settle_45 ?_
              refine lv_tope (show (nI ((2 + (a * (M + 1))) + 1)) + (nI b) = nI (((2 + (a * (M + 1))) + 1) + b) from nI_add _ _) ?_
              refine rdV (As := [.int (nI (((2 + (a * (M + 1))) + 1) + b))]) (rest := [.int (nI b), .int (nI a), .ref t]) (ci := 3) (q0 := 0) hE (kX3_code l G tt sh sc ln L F i n M (((2 + (a * (M + 1))) + 1) + b) (by rcases (show M = 2 ∨ M = 3 ∨ M = 4 ∨ M = 5 by omega) with rfl | rfl | rfl | rfl <;> omega)) (cwV 1 hts gX3_settle_X3_code rfl rfl rfl (by decide +kernel) ⟨Nat.le_of_ble_eq_true rfl, Nat.le_of_ble_eq_true rfl⟩) hP hK [0, 1, 2] rfl rfl rfl rfl hl.1 rfl (Nat.le_of_ble_eq_true rfl) dX3_settle_46 ⟨Nat.zero_le _, Nat.zero_le _⟩ ?_
              refine W.eq (g2 := F0 m 49 ls [.int (F (i + (((2 + (a * (M + 1))) + 1) + b))), .int (nI b), .int (nI a), .ref t]) rfl ?_
              refine lv_bipush (v := nI 48) hx hb dX3_settle_49 (by decide) ?_
              refine lv_isub hx hb dX3_settle_51 ?_
              refine wtV (As := [.int (nI a), .int (nI b), .int ((F (i + (((2 + (a * (M + 1))) + 1) + b))) - (nI 48))]) (rest := []) (ci := 2) (q0 := 3) hE (kX2_setDebt l G t ap ak ao (nI M) tB (spI (spO P (fun t => F (i + t)) M a) (fun t => F (i + t)) M a b) a b ((F (i + (((2 + (a * (M + 1))) + 1) + b))) - (nI 48)) (by first | omega | assumption)) (cwV 3 hts gX3_settle_X2_setDebt rfl rfl rfl (by decide +kernel) ⟨Nat.le_of_ble_eq_true rfl, Nat.le_of_ble_eq_true rfl⟩) hP hK hD hS [3, 4] (by decide) rfl (Eq.trans (b := [t, ap]) rfl rfl) (W1 := [(tt, .inr (3, [.ref sh, .int (nI i), .int (nI n), .int (nI M), .int (nI (2 + M * (M + 1)))])), (sh, .inr (1, [.ref sc, .int ln, .int (nI L)])), (sc, aI G 60 F), (t, .inr (2, [.ref ap, .ref ak, .ref ao, .int (nI M), .int tB])), (ap, aI G 25 (upd (spI (spO P (fun t => F (i + t)) M a) (fun t => F (i + t)) M a b) (a * 5 + b) ((F (i + (((2 + (a * (M + 1))) + 1) + b))) - (nI 48)))), (ak, aI G 4 K), (ao, aI G 4 U)]) rfl rfl rfl rfl hl.1 rfl (Nat.le_of_ble_eq_true rfl) dX3_settle_52 ⟨Nat.zero_le _, Nat.zero_le _⟩ (fun H locs hP hD hS => ?_)
              refine W.eq (g2 := F0 m 55 ls []) rfl ?_
              refine lv_iinc (v := nI (b + 1)) (lv' := [(3, .int (nI (b + 1))), (2, .int (nI a)), (0, .ref tt), (1, .ref t)]) hx hb dX3_settle_55 hl (k := 0) rfl (show nI b + Int32.ofInt 1 = nI (b + 1) from nI_add _ 1) (by decide) rfl (fun ls hl => ?_)
              refine lv_goto (tgt := 20) hx hb dX3_settle_58 (by decide) ?_
              have hP7 : va_P G.1 vwCl [(tt, .inr (3, [.ref sh, .int (nI i), .int (nI n), .int (nI M), .int (nI (2 + M * (M + 1)))])), (sh, .inr (1, [.ref sc, .int ln, .int (nI L)])), (sc, aI G 60 F), (t, .inr (2, [.ref ap, .ref ak, .ref ao, .int (nI M), .int tB])), (ap, aI G 25 (spI (spO P (fun t => F (i + t)) M a) (fun t => F (i + t)) M a (b + 1))), (ak, aI G 4 K), (ao, aI G 4 U)] H := by
                rw [show (spI (spO P (fun t => F (i + t)) M a) (fun t => F (i + t)) M a (b + 1)) = (upd (spI (spO P (fun t => F (i + t)) M a) (fun t => F (i + t)) M a b) (a * 5 + b) ((F (i + (((2 + (a * (M + 1))) + 1) + b))) - (nI 48))) from by first | rfl | simp only [spI, iF_t c1, iF_t c5]]
                exact hP
              have hD7 : va_D A [(tt, .inr (3, [.ref sh, .int (nI i), .int (nI n), .int (nI M), .int (nI (2 + M * (M + 1)))])), (sh, .inr (1, [.ref sc, .int ln, .int (nI L)])), (sc, aI G 60 F), (t, .inr (2, [.ref ap, .ref ak, .ref ao, .int (nI M), .int tB])), (ap, aI G 25 (spI (spO P (fun t => F (i + t)) M a) (fun t => F (i + t)) M a (b + 1))), (ak, aI G 4 K), (ao, aI G 4 U)] := by
                rw [show (spI (spO P (fun t => F (i + t)) M a) (fun t => F (i + t)) M a (b + 1)) = (upd (spI (spO P (fun t => F (i + t)) M a) (fun t => F (i + t)) M a b) (a * 5 + b) ((F (i + (((2 + (a * (M + 1))) + 1) + b))) - (nI 48))) from by first | rfl | simp only [spI, iF_t c1, iF_t c5]]
                exact hD
              exact ih3 (b + 1) H locs ls (by omega) (by omega) hP7 hD7 hS (lv_sub hl [0, 1, 2, 3] rfl)
        have hP8 : va_P G.1 vwCl [(tt, .inr (3, [.ref sh, .int (nI i), .int (nI n), .int (nI M), .int (nI (2 + M * (M + 1)))])), (sh, .inr (1, [.ref sc, .int ln, .int (nI L)])), (sc, aI G 60 F), (t, .inr (2, [.ref ap, .ref ak, .ref ao, .int (nI M), .int tB])), (ap, aI G 25 (spI (spO P (fun t => F (i + t)) M a) (fun t => F (i + t)) M a 0)), (ak, aI G 4 K), (ao, aI G 4 U)] H := by
          rw [show (spI (spO P (fun t => F (i + t)) M a) (fun t => F (i + t)) M a 0) = (spO P (fun t => F (i + t)) M a) from by first | rfl | simp only [spI, iF_t c1]]
          exact hP
        have hD8 : va_D A [(tt, .inr (3, [.ref sh, .int (nI i), .int (nI n), .int (nI M), .int (nI (2 + M * (M + 1)))])), (sh, .inr (1, [.ref sc, .int ln, .int (nI L)])), (sc, aI G 60 F), (t, .inr (2, [.ref ap, .ref ak, .ref ao, .int (nI M), .int tB])), (ap, aI G 25 (spI (spO P (fun t => F (i + t)) M a) (fun t => F (i + t)) M a 0)), (ak, aI G 4 K), (ao, aI G 4 U)] := by
          rw [show (spI (spO P (fun t => F (i + t)) M a) (fun t => F (i + t)) M a 0) = (spO P (fun t => F (i + t)) M a) from by first | rfl | simp only [spI, iF_t c1]]
          exact hD
        exact loop3 (M + 1) 0 H locs ls (by omega) (by omega) hP8 hD8 hS (lv_sub hl [0, 1, 2, 3] rfl)
  have hP9 : va_P G.1 vwCl [(tt, .inr (3, [.ref sh, .int (nI i), .int (nI n), .int (nI M), .int (nI (2 + M * (M + 1)))])), (sh, .inr (1, [.ref sc, .int ln, .int (nI L)])), (sc, aI G 60 F), (t, .inr (2, [.ref ap, .ref ak, .ref ao, .int (nI M), .int tB])), (ap, aI G 25 (spO P (fun t => F (i + t)) M 0)), (ak, aI G 4 K), (ao, aI G 4 U)] H := by
    rw [show (spO P (fun t => F (i + t)) M 0) = (P) from by first | rfl | simp only [spO]]
    exact hP
  have hD9 : va_D A [(tt, .inr (3, [.ref sh, .int (nI i), .int (nI n), .int (nI M), .int (nI (2 + M * (M + 1)))])), (sh, .inr (1, [.ref sc, .int ln, .int (nI L)])), (sc, aI G 60 F), (t, .inr (2, [.ref ap, .ref ak, .ref ao, .int (nI M), .int tB])), (ap, aI G 25 (spO P (fun t => F (i + t)) M 0)), (ak, aI G 4 K), (ao, aI G 4 U)] := by
    rw [show (spO P (fun t => F (i + t)) M 0) = (P) from by first | rfl | simp only [spO]]
    exact hD
  exact loop1 (M + 1) 0 H locs ls (by omega) (by omega) hP9 hD9 hS (lv_sub hl [0, 1, 2] rfl)
