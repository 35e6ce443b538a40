theorem nkX3_22 : Cond.fieldLinkNest RX3 22 (TX1 0).1 (TX1 0).2.1 (TX1 0).2.2.1 "SolsticeBoys" ∈ nestW := by decide +kernel
theorem nkX3_48 : Cond.fieldLinkNest RX3 48 (TX2 3).1 (TX2 3).2.1 (TX2 3).2.2.1 "SolsticeBoys" ∈ nestW := by decide +kernel
theorem nkX3_55 : Cond.fieldLinkNest RX3 55 (TX2 4).1 (TX2 4).2.1 (TX2 4).2.2.1 "SolsticeBoys" ∈ nestW := by decide +kernel
theorem nkX3_58 : Cond.fieldLinkNest RX3 58 (TX2 1).1 (TX2 1).2.1 (TX2 1).2.2.1 "SolsticeBoys" ∈ nestW := by decide +kernel
theorem nkX3_61 : Cond.fieldLinkNest RX3 61 (TX2 2).1 (TX2 2).2.1 (TX2 2).2.2.1 "SolsticeBoys" ∈ nestW := by decide +kernel
theorem ixX3_init_X3 : ∀ w ∈ wsX30, w ∈ wsX3_init := fun _ h => List.mem_cons_of_mem _ (List.mem_append_left _ (List.mem_append_right _ h))
theorem lkX3_init_9 : Cond.fieldLink RX3 9 (TX3 0).1 (TX3 0).2.1 (TX3 0).2.2.1 ∈ wsX3_init := List.mem_of_getElem? (i := 4) rfl
theorem lkX3_init_15 : Cond.fieldLink RX3 15 (TX3 1).1 (TX3 1).2.1 (TX3 1).2.2.1 ∈ wsX3_init := List.mem_of_getElem? (i := 5) rfl
theorem lkX3_init_19 : Cond.fieldLink RX3 19 (TX3 2).1 (TX3 2).2.1 (TX3 2).2.2.1 ∈ wsX3_init := List.mem_of_getElem? (i := 6) rfl
theorem lkX3_init_28 : Cond.fieldLink RX3 28 (TX3 3).1 (TX3 3).2.1 (TX3 3).2.2.1 ∈ wsX3_init := List.mem_of_getElem? (i := 7) rfl
theorem lkX3_init_31 : Cond.fieldLink RX3 31 (TX3 4).1 (TX3 4).2.1 (TX3 4).2.2.1 ∈ wsX3_init := List.mem_of_getElem? (i := 8) rfl
theorem ixX3_init_X1 : ∀ w ∈ wsX10, w ∈ wsX3_init := fun _ h => List.mem_cons_of_mem _ (List.mem_append_right _ h)
set_option maxHeartbeats 4000000 in
set_option maxRecDepth 100000 in
theorem kX3_init (l : Launch) (G : Gl) (tt : Nat) (sh : Nat) (sc : Nat) (ln : Int32) (L : Nat) (F : Nat → Int32) (i : Nat) (n : Nat) (M : Nat) (f1 : Int32) (f2 : Int32) (f3 : Int32) (f4 : Int32) (hin9 : i + n ≤ 60) (hMt : M = mT (fun t => F (i + t)) n) : Wt l G yX3_init wsX3_init ({ frames := 1, cells := 0, slots := 0, locals := 12 } : Room) [.ref tt, .ref sh, .int (nI i), .int (nI n)] [(tt, .inr (3, [.null, .int f1, .int f2, .int f3, .int f4])), (sh, .inr (1, [.ref sc, .int ln, .int (nI L)])), (sc, aI G 60 F)] [(tt, .inr (3, [.ref sh, .int (nI i), .int (nI n), .int (nI M), .int (nI (2 + M * (M + 1)))])), (sh, .inr (1, [.ref sc, .int ln, .int (nI L)])), (sc, aI G 60 F)] none := by
  refine Wt.ofV (cc := cX3_init) (maxL := 5) (by decide) rfl (Nat.le_of_ble_eq_true rfl) ?_
  intro p e s m below meth c Q A ls hE hin hP hK hD hS hl hret
  obtain ⟨hx, hb, hml, hown, hts⟩ := id hE
  have hl : lv_has ls 5 [(0, .ref tt), (1, .ref sh), (2, .int (nI i)), (3, .int (nI n))] := hl
  refine lv_aload_n hx hb dX3_init_0 rfl (lv_at hl 0 rfl) ?_
  refine W.objInit hx hb hown (hts (.methodLink RX3 3 objectInit) (List.mem_of_getElem? (i := 1) rfl)) (hts (.instanceMethod objectInit) (List.mem_of_getElem? (i := 2) rfl)) (hts (.code objectInit ⟨#[0xb1]⟩ 1 none) (List.mem_of_getElem? (i := 3) rfl)) rfl (by rw [hml]; exact hl.1) rfl dX3_init_1 (Nat.le_of_ble_eq_true rfl) (Nat.le_of_ble_eq_true rfl) ?_
  refine W.eq (g2 := F0 m 4 ls []) rfl ?_
  refine lv_aload_n hx hb dX3_init_4 rfl (lv_at hl 0 rfl) ?_
  refine lv_aload_n hx hb dX3_init_5 rfl (lv_at hl 1 rfl) ?_
  refine va_putF (D := G.1) (ci := 3) (v := .ref sh) (ty := .object "SolsticeBoys$Sheet") (C := RX3) (T := TX3) (N := 5) hx hb hts ixX3_init_X3 tyX3 tyX3_ok nmX3 hown hK.1 hP hD hS 0 rfl rfl 0 (by decide) (hts _ lkX3_init_9) (fun _ h9 => h9) rfl hin rfl (by decide +kernel) rfl rfl (Nat.le_of_ble_eq_true rfl) dX3_init_6 (fun H locs hP hD hS => ?_)
  have hP : va_P G.1 vwCl [(tt, .inr (3, [.ref sh, .int f1, .int f2, .int f3, .int f4])), (sh, .inr (1, [.ref sc, .int ln, .int (nI L)])), (sc, aI G 60 F)] H := hP
  have hD : va_D A [(tt, .inr (3, [.ref sh, .int f1, .int f2, .int f3, .int f4])), (sh, .inr (1, [.ref sc, .int ln, .int (nI L)])), (sc, aI G 60 F)] := hD
  refine lv_aload_n hx hb dX3_init_9 rfl (lv_at hl 0 rfl) ?_
  refine lv_iload_n hx hb dX3_init_10 rfl (lv_at hl 2 rfl) ?_
  refine va_putF (D := G.1) (ci := 3) (v := .int (nI i)) (ty := .int) (C := RX3) (T := TX3) (N := 5) hx hb hts ixX3_init_X3 tyX3 tyX3_ok nmX3 hown hK.1 hP hD hS 0 rfl rfl 1 (by decide) (hts _ lkX3_init_15) (fun _ h9 => h9) rfl hin rfl (by decide +kernel) rfl rfl (Nat.le_of_ble_eq_true rfl) dX3_init_11 (fun H locs hP hD hS => ?_)
  have hP : va_P G.1 vwCl [(tt, .inr (3, [.ref sh, .int (nI i), .int f2, .int f3, .int f4])), (sh, .inr (1, [.ref sc, .int ln, .int (nI L)])), (sc, aI G 60 F)] H := hP
  have hD : va_D A [(tt, .inr (3, [.ref sh, .int (nI i), .int f2, .int f3, .int f4])), (sh, .inr (1, [.ref sc, .int ln, .int (nI L)])), (sc, aI G 60 F)] := hD
  refine lv_aload_n hx hb dX3_init_14 rfl (lv_at hl 0 rfl) ?_
  refine lv_iload_n hx hb dX3_init_15 rfl (lv_at hl 3 rfl) ?_
  refine va_putF (D := G.1) (ci := 3) (v := .int (nI n)) (ty := .int) (C := RX3) (T := TX3) (N := 5) hx hb hts ixX3_init_X3 tyX3 tyX3_ok nmX3 hown hK.1 hP hD hS 0 rfl rfl 2 (by decide) (hts _ lkX3_init_19) (fun _ h9 => h9) rfl hin rfl (by decide +kernel) rfl rfl (Nat.le_of_ble_eq_true rfl) dX3_init_16 (fun H locs hP hD hS => ?_)
  have hP : va_P G.1 vwCl [(tt, .inr (3, [.ref sh, .int (nI i), .int (nI n), .int f3, .int f4])), (sh, .inr (1, [.ref sc, .int ln, .int (nI L)])), (sc, aI G 60 F)] H := hP
  have hD : va_D A [(tt, .inr (3, [.ref sh, .int (nI i), .int (nI n), .int f3, .int f4])), (sh, .inr (1, [.ref sc, .int ln, .int (nI L)])), (sc, aI G 60 F)] := hD
  refine lv_iload_n hx hb dX3_init_19 rfl (lv_at hl 3 rfl) ?_
  refine lv_iconst (v := nI 1) hx hb dX3_init_20 (by decide) ?_
  refine ic_le (tgt := 38) hx hb (by omega) (by omega) dX3_init_21 (by decide) (fun c1 => ?_) (fun c1 => ?_)
  ·
    refine lv_iconst (v := nI 0) hx hb dX3_init_38 (by decide) ?_
    refine lv_istore (lv' := [(4, .int (nI 0)), (0, .ref tt), (1, .ref sh), (2, .int (nI i)), (3, .int (nI n))]) hx hb dX3_init_39 hl (by decide) rfl (fun ls hl => ?_)
    refine lv_aload_n hx hb dX3_init_41 rfl (lv_at hl 1 rfl) ?_
    refine lv_iload hx hb dX3_init_42 (lv_at hl 0 rfl) ?_
    refine lv_iconst (v := nI 2) hx hb dX3_init_44 (by decide) ?_
    refine ic_lt (tgt := 59) hx hb (by decide) (by decide) dX3_init_45 (by decide) (fun c2 => ?_) (fun c2 => ?_)
    ·
      refine lv_iconst (v := nI 0) hx hb dX3_init_59 (by decide) ?_
      refine lv_tope (show nI 0 = nI M from by rw [hMt, mT_no (g := (fun t => F (i + t))) (fun h => by obtain ⟨q1, q2, q3⟩ := h; first | omega | contradiction)]) ?_
      refine va_putF (D := G.1) (ci := 3) (v := .int (nI M)) (ty := .int) (C := RX3) (T := TX3) (N := 5) hx hb hts ixX3_init_X3 tyX3 tyX3_ok nmX3 hown hK.1 hP hD hS 0 rfl rfl 3 (by decide) (hts _ lkX3_init_28) (fun _ h9 => h9) rfl hin rfl (by decide +kernel) rfl rfl (Nat.le_of_ble_eq_true rfl) dX3_init_60 (fun H locs hP hD hS => ?_)
      have hP : va_P G.1 vwCl [(tt, .inr (3, [.ref sh, .int (nI i), .int (nI n), .int (nI M), .int f4])), (sh, .inr (1, [.ref sc, .int ln, .int (nI L)])), (sc, aI G 60 F)] H := hP
      have hD : va_D A [(tt, .inr (3, [.ref sh, .int (nI i), .int (nI n), .int (nI M), .int f4])), (sh, .inr (1, [.ref sc, .int ln, .int (nI L)])), (sc, aI G 60 F)] := hD
      have hM5 := mT_or (fun t => F (i + t)) n
      rw [← hMt] at hM5
      have hmm := mm_le M (by omega)
      refine lv_aload_n hx hb dX3_init_63 rfl (lv_at hl 1 rfl) ?_
      refine lv_iconst (v := nI 2) hx hb dX3_init_64 (by decide) ?_
      refine lv_aload_n hx hb dX3_init_65 rfl (lv_at hl 1 rfl) ?_
      refine g_get (v := .int (nI M)) hx hb hts ixX3_init_X3 hown hK hP 0 rfl rfl 3 (by decide) lkX3_init_28 rfl dX3_init_66 ?_
      refine lv_aload_n hx hb dX3_init_69 rfl (lv_at hl 1 rfl) ?_
      refine g_get (v := .int (nI M)) hx hb hts ixX3_init_X3 hown hK hP 0 rfl rfl 3 (by decide) lkX3_init_28 rfl dX3_init_70 ?_
      refine lv_iconst (v := nI 1) hx hb dX3_init_73 (by decide) ?_
      refine lv_iadd hx hb dX3_init_74 ?_
      refine lv_tope (show (nI M) + (nI 1) = nI (M + 1) from nI_add _ _) ?_
      refine lv_imul hx hb dX3_init_75 ?_
      refine lv_tope (show (nI M) * (nI (M + 1)) = nI (M * (M + 1)) from pk_mul _ _) ?_
      refine lv_iadd hx hb dX3_init_76 ?_
      refine lv_tope (show (nI 2) + (nI (M * (M + 1))) = nI (2 + (M * (M + 1))) from nI_add _ _) ?_
      refine va_putF (D := G.1) (ci := 3) (v := .int (nI (2 + (M * (M + 1))))) (ty := .int) (C := RX3) (T := TX3) (N := 5) hx hb hts ixX3_init_X3 tyX3 tyX3_ok nmX3 hown hK.1 hP hD hS 0 rfl rfl 4 (by decide) (hts _ lkX3_init_31) (fun _ h9 => h9) rfl hin rfl (by decide +kernel) rfl rfl (Nat.le_of_ble_eq_true rfl) dX3_init_77 (fun H locs hP hD hS => ?_)
      have hP : va_P G.1 vwCl [(tt, .inr (3, [.ref sh, .int (nI i), .int (nI n), .int (nI M), .int (nI (2 + (M * (M + 1))))])), (sh, .inr (1, [.ref sc, .int ln, .int (nI L)])), (sc, aI G 60 F)] H := hP
      have hD : va_D A [(tt, .inr (3, [.ref sh, .int (nI i), .int (nI n), .int (nI M), .int (nI (2 + (M * (M + 1))))])), (sh, .inr (1, [.ref sc, .int ln, .int (nI L)])), (sc, aI G 60 F)] := hD
      exact hret _ _ _ _ (by first | with_reducible exact hP | (simp only [iF_t c1]; with_reducible exact hP) | contradiction | (simp only [iF_t c1]; exact hP) | exact hP) hS dX3_init_80
    ·
      exact absurd c2 (by decide)
  ·
    refine lv_aload_n hx hb dX3_init_24 rfl (lv_at hl 1 rfl) ?_
    refine g_getN (v := .ref sc) hx hb hts ixX3_init_X1 hown hK hP 1 rfl rfl 0 (by decide) nkX3_22 rfl dX3_init_25 ?_
    refine lv_iload_n hx hb dX3_init_28 rfl (lv_at hl 2 rfl) ?_
    refine lv_iconst (v := nI 1) hx hb dX3_init_29 (by decide) ?_
    refine lv_iadd hx hb dX3_init_30 ?_
    refine lv_tope (show (nI i) + (nI 1) = nI (i + 1) from nI_add _ _) ?_
    refine n_ald hx hb hK hP 2 rfl (k := i + 1) (by omega) (by decide) dX3_init_31 ?_
    refine lv_bipush (v := nI 48) hx hb dX3_init_32 (by decide) ?_
    refine lv_isub hx hb dX3_init_34 ?_
    refine lv_goto (tgt := 39) hx hb dX3_init_35 (by decide) ?_
    refine lv_istore (lv' := [(4, .int ((F (i + 1)) - (nI 48))), (0, .ref tt), (1, .ref sh), (2, .int (nI i)), (3, .int (nI n))]) hx hb dX3_init_39 hl (by decide) rfl (fun ls hl => ?_)
    refine lv_aload_n hx hb dX3_init_41 rfl (lv_at hl 1 rfl) ?_
    refine lv_iload hx hb dX3_init_42 (lv_at hl 0 rfl) ?_
    refine lv_iconst (v := nI 2) hx hb dX3_init_44 (by decide) ?_
    refine lv_icmp_lt (tgt := 59) hx hb dX3_init_45 (by decide) (fun c3 => ?_) (fun c3 => ?_)
    ·
      refine lv_iconst (v := nI 0) hx hb dX3_init_59 (by decide) ?_
      refine lv_tope (show nI 0 = nI M from by rw [hMt, mT_no (g := (fun t => F (i + t))) (fun h => by obtain ⟨q1, q2, q3⟩ := h; first | omega | contradiction)]) ?_
      refine va_putF (D := G.1) (ci := 3) (v := .int (nI M)) (ty := .int) (C := RX3) (T := TX3) (N := 5) hx hb hts ixX3_init_X3 tyX3 tyX3_ok nmX3 hown hK.1 hP hD hS 0 rfl rfl 3 (by decide) (hts _ lkX3_init_28) (fun _ h9 => h9) rfl hin rfl (by decide +kernel) rfl rfl (Nat.le_of_ble_eq_true rfl) dX3_init_60 (fun H locs hP hD hS => ?_)
      have hP : va_P G.1 vwCl [(tt, .inr (3, [.ref sh, .int (nI i), .int (nI n), .int (nI M), .int f4])), (sh, .inr (1, [.ref sc, .int ln, .int (nI L)])), (sc, aI G 60 F)] H := hP
      have hD : va_D A [(tt, .inr (3, [.ref sh, .int (nI i), .int (nI n), .int (nI M), .int f4])), (sh, .inr (1, [.ref sc, .int ln, .int (nI L)])), (sc, aI G 60 F)] := hD
      have hM5 := mT_or (fun t => F (i + t)) n
      rw [← hMt] at hM5
      have hmm := mm_le M (by omega)
      refine lv_aload_n hx hb dX3_init_63 rfl (lv_at hl 1 rfl) ?_
      refine lv_iconst (v := nI 2) hx hb dX3_init_64 (by decide) ?_
      refine lv_aload_n hx hb dX3_init_65 rfl (lv_at hl 1 rfl) ?_
      refine g_get (v := .int (nI M)) hx hb hts ixX3_init_X3 hown hK hP 0 rfl rfl 3 (by decide) lkX3_init_28 rfl dX3_init_66 ?_
      refine lv_aload_n hx hb dX3_init_69 rfl (lv_at hl 1 rfl) ?_
      refine g_get (v := .int (nI M)) hx hb hts ixX3_init_X3 hown hK hP 0 rfl rfl 3 (by decide) lkX3_init_28 rfl dX3_init_70 ?_
      refine lv_iconst (v := nI 1) hx hb dX3_init_73 (by decide) ?_
      refine lv_iadd hx hb dX3_init_74 ?_
      refine lv_tope (show (nI M) + (nI 1) = nI (M + 1) from nI_add _ _) ?_
      refine lv_imul hx hb dX3_init_75 ?_
      refine lv_tope (show (nI M) * (nI (M + 1)) = nI (M * (M + 1)) from pk_mul _ _) ?_
      refine lv_iadd hx hb dX3_init_76 ?_
      refine lv_tope (show (nI 2) + (nI (M * (M + 1))) = nI (2 + (M * (M + 1))) from nI_add _ _) ?_
      refine va_putF (D := G.1) (ci := 3) (v := .int (nI (2 + (M * (M + 1))))) (ty := .int) (C := RX3) (T := TX3) (N := 5) hx hb hts ixX3_init_X3 tyX3 tyX3_ok nmX3 hown hK.1 hP hD hS 0 rfl rfl 4 (by decide) (hts _ lkX3_init_31) (fun _ h9 => h9) rfl hin rfl (by decide +kernel) rfl rfl (Nat.le_of_ble_eq_true rfl) dX3_init_77 (fun H locs hP hD hS => ?_)
      have hP : va_P G.1 vwCl [(tt, .inr (3, [.ref sh, .int (nI i), .int (nI n), .int (nI M), .int (nI (2 + (M * (M + 1))))])), (sh, .inr (1, [.ref sc, .int ln, .int (nI L)])), (sc, aI G 60 F)] H := hP
      have hD : va_D A [(tt, .inr (3, [.ref sh, .int (nI i), .int (nI n), .int (nI M), .int (nI (2 + (M * (M + 1))))])), (sh, .inr (1, [.ref sc, .int ln, .int (nI L)])), (sc, aI G 60 F)] := hD
      exact hret _ _ _ _ (by first | with_reducible exact hP | (simp only [iF_f (Nat.not_le.mpr c1), iF_t c3, iF_f (i32_lt c3)]; with_reducible exact hP) | contradiction | (simp only [iF_f (Nat.not_le.mpr c1), iF_t c3, iF_f (i32_lt c3)]; exact hP) | exact hP) hS dX3_init_80
    ·
      refine lv_iload hx hb dX3_init_48 (lv_at hl 0 rfl) ?_
      refine lv_iconst (v := nI 5) hx hb dX3_init_50 (by decide) ?_
      refine lv_icmp_gt (tgt := 59) hx hb dX3_init_51 (by decide) (fun c4 => ?_) (fun c4 => ?_)
      ·
        refine lv_iconst (v := nI 0) hx hb dX3_init_59 (by decide) ?_
        refine lv_tope (show nI 0 = nI M from by rw [hMt, mT_no (g := (fun t => F (i + t))) (fun h => by obtain ⟨q1, q2, q3⟩ := h; first | omega | contradiction)]) ?_
        refine va_putF (D := G.1) (ci := 3) (v := .int (nI M)) (ty := .int) (C := RX3) (T := TX3) (N := 5) hx hb hts ixX3_init_X3 tyX3 tyX3_ok nmX3 hown hK.1 hP hD hS 0 rfl rfl 3 (by decide) (hts _ lkX3_init_28) (fun _ h9 => h9) rfl hin rfl (by decide +kernel) rfl rfl (Nat.le_of_ble_eq_true rfl) dX3_init_60 (fun H locs hP hD hS => ?_)
        have hP : va_P G.1 vwCl [(tt, .inr (3, [.ref sh, .int (nI i), .int (nI n), .int (nI M), .int f4])), (sh, .inr (1, [.ref sc, .int ln, .int (nI L)])), (sc, aI G 60 F)] H := hP
        have hD : va_D A [(tt, .inr (3, [.ref sh, .int (nI i), .int (nI n), .int (nI M), .int f4])), (sh, .inr (1, [.ref sc, .int ln, .int (nI L)])), (sc, aI G 60 F)] := hD
        have hM5 := mT_or (fun t => F (i + t)) n
        rw [← hMt] at hM5
        have hmm := mm_le M (by omega)
        refine lv_aload_n hx hb dX3_init_63 rfl (lv_at hl 1 rfl) ?_
        refine lv_iconst (v := nI 2) hx hb dX3_init_64 (by decide) ?_
        refine lv_aload_n hx hb dX3_init_65 rfl (lv_at hl 1 rfl) ?_
        refine g_get (v := .int (nI M)) hx hb hts ixX3_init_X3 hown hK hP 0 rfl rfl 3 (by decide) lkX3_init_28 rfl dX3_init_66 ?_
        refine lv_aload_n hx hb dX3_init_69 rfl (lv_at hl 1 rfl) ?_
        refine g_get (v := .int (nI M)) hx hb hts ixX3_init_X3 hown hK hP 0 rfl rfl 3 (by decide) lkX3_init_28 rfl dX3_init_70 ?_
        refine lv_iconst (v := nI 1) hx hb dX3_init_73 (by decide) ?_
        refine lv_iadd hx hb dX3_init_74 ?_
        refine lv_tope (show (nI M) + (nI 1) = nI (M + 1) from nI_add _ _) ?_
        refine lv_imul hx hb dX3_init_75 ?_
        refine lv_tope (show (nI M) * (nI (M + 1)) = nI (M * (M + 1)) from pk_mul _ _) ?_
        refine lv_iadd hx hb dX3_init_76 ?_
        refine lv_tope (show (nI 2) + (nI (M * (M + 1))) = nI (2 + (M * (M + 1))) from nI_add _ _) ?_
        refine va_putF (D := G.1) (ci := 3) (v := .int (nI (2 + (M * (M + 1))))) (ty := .int) (C := RX3) (T := TX3) (N := 5) hx hb hts ixX3_init_X3 tyX3 tyX3_ok nmX3 hown hK.1 hP hD hS 0 rfl rfl 4 (by decide) (hts _ lkX3_init_31) (fun _ h9 => h9) rfl hin rfl (by decide +kernel) rfl rfl (Nat.le_of_ble_eq_true rfl) dX3_init_77 (fun H locs hP hD hS => ?_)
        have hP : va_P G.1 vwCl [(tt, .inr (3, [.ref sh, .int (nI i), .int (nI n), .int (nI M), .int (nI (2 + (M * (M + 1))))])), (sh, .inr (1, [.ref sc, .int ln, .int (nI L)])), (sc, aI G 60 F)] H := hP
        have hD : va_D A [(tt, .inr (3, [.ref sh, .int (nI i), .int (nI n), .int (nI M), .int (nI (2 + (M * (M + 1))))])), (sh, .inr (1, [.ref sc, .int ln, .int (nI L)])), (sc, aI G 60 F)] := hD
        exact hret _ _ _ _ (by first | with_reducible exact hP | (simp only [iF_f (Nat.not_le.mpr c1), iF_f c3, iF_t (i32_nlt c3), iF_t c4, iF_f (i32_lt c4)]; with_reducible exact hP) | contradiction | (simp only [iF_f (Nat.not_le.mpr c1), iF_f c3, iF_t (i32_nlt c3), iF_t c4, iF_f (i32_lt c4)]; exact hP) | exact hP) hS dX3_init_80
      ·
        refine lv_iload hx hb dX3_init_54 (lv_at hl 0 rfl) ?_
        refine lv_tope (show (F (i + 1)) - (nI 48) = nI M from by rw [hMt]; exact (mT_yes (g := (fun t => F (i + t))) ⟨c1, c3, c4⟩).1) ?_
        refine lv_goto (tgt := 60) hx hb dX3_init_56 (by decide) ?_
        refine va_putF (D := G.1) (ci := 3) (v := .int (nI M)) (ty := .int) (C := RX3) (T := TX3) (N := 5) hx hb hts ixX3_init_X3 tyX3 tyX3_ok nmX3 hown hK.1 hP hD hS 0 rfl rfl 3 (by decide) (hts _ lkX3_init_28) (fun _ h9 => h9) rfl hin rfl (by decide +kernel) rfl rfl (Nat.le_of_ble_eq_true rfl) dX3_init_60 (fun H locs hP hD hS => ?_)
        have hP : va_P G.1 vwCl [(tt, .inr (3, [.ref sh, .int (nI i), .int (nI n), .int (nI M), .int f4])), (sh, .inr (1, [.ref sc, .int ln, .int (nI L)])), (sc, aI G 60 F)] H := hP
        have hD : va_D A [(tt, .inr (3, [.ref sh, .int (nI i), .int (nI n), .int (nI M), .int f4])), (sh, .inr (1, [.ref sc, .int ln, .int (nI L)])), (sc, aI G 60 F)] := hD
        have hM5 := mT_or (fun t => F (i + t)) n
        rw [← hMt] at hM5
        have hmm := mm_le M (by omega)
        refine lv_aload_n hx hb dX3_init_63 rfl (lv_at hl 1 rfl) ?_
        refine lv_iconst (v := nI 2) hx hb dX3_init_64 (by decide) ?_
        refine lv_aload_n hx hb dX3_init_65 rfl (lv_at hl 1 rfl) ?_
        refine g_get (v := .int (nI M)) hx hb hts ixX3_init_X3 hown hK hP 0 rfl rfl 3 (by decide) lkX3_init_28 rfl dX3_init_66 ?_
        refine lv_aload_n hx hb dX3_init_69 rfl (lv_at hl 1 rfl) ?_
        refine g_get (v := .int (nI M)) hx hb hts ixX3_init_X3 hown hK hP 0 rfl rfl 3 (by decide) lkX3_init_28 rfl dX3_init_70 ?_
        refine lv_iconst (v := nI 1) hx hb dX3_init_73 (by decide) ?_
        refine lv_iadd hx hb dX3_init_74 ?_
        refine lv_tope (show (nI M) + (nI 1) = nI (M + 1) from nI_add _ _) ?_
        refine lv_imul hx hb dX3_init_75 ?_
        refine lv_tope (show (nI M) * (nI (M + 1)) = nI (M * (M + 1)) from pk_mul _ _) ?_
        refine lv_iadd hx hb dX3_init_76 ?_
        refine lv_tope (show (nI 2) + (nI (M * (M + 1))) = nI (2 + (M * (M + 1))) from nI_add _ _) ?_
        refine va_putF (D := G.1) (ci := 3) (v := .int (nI (2 + (M * (M + 1))))) (ty := .int) (C := RX3) (T := TX3) (N := 5) hx hb hts ixX3_init_X3 tyX3 tyX3_ok nmX3 hown hK.1 hP hD hS 0 rfl rfl 4 (by decide) (hts _ lkX3_init_31) (fun _ h9 => h9) rfl hin rfl (by decide +kernel) rfl rfl (Nat.le_of_ble_eq_true rfl) dX3_init_77 (fun H locs hP hD hS => ?_)
        have hP : va_P G.1 vwCl [(tt, .inr (3, [.ref sh, .int (nI i), .int (nI n), .int (nI M), .int (nI (2 + (M * (M + 1))))])), (sh, .inr (1, [.ref sc, .int ln, .int (nI L)])), (sc, aI G 60 F)] H := hP
        have hD : va_D A [(tt, .inr (3, [.ref sh, .int (nI i), .int (nI n), .int (nI M), .int (nI (2 + (M * (M + 1))))])), (sh, .inr (1, [.ref sc, .int ln, .int (nI L)])), (sc, aI G 60 F)] := hD
        exact hret _ _ _ _ (by first | with_reducible exact hP | (simp only [iF_f (Nat.not_le.mpr c1), iF_f c3, iF_t (i32_nlt c3), iF_f c4, iF_t (i32_nlt c4)]; with_reducible exact hP) | contradiction | (simp only [iF_f (Nat.not_le.mpr c1), iF_f c3, iF_t (i32_nlt c3), iF_f c4, iF_t (i32_nlt c4)]; exact hP) | exact hP) hS dX3_init_80

theorem ixX3_code_X3 : ∀ w ∈ wsX30, w ∈ wsX3_code := fun _ h => List.mem_cons_of_mem _ (List.mem_append_left _ (List.mem_append_right _ h))
theorem lkX3_code_9 : Cond.fieldLink RX3 9 (TX3 0).1 (TX3 0).2.1 (TX3 0).2.2.1 ∈ wsX3_code := List.mem_of_getElem? (i := 1) rfl
theorem ixX3_code_X1 : ∀ w ∈ wsX10, w ∈ wsX3_code := fun _ h => List.mem_cons_of_mem _ (List.mem_append_right _ h)
theorem lkX3_code_15 : Cond.fieldLink RX3 15 (TX3 1).1 (TX3 1).2.1 (TX3 1).2.2.1 ∈ wsX3_code := List.mem_of_getElem? (i := 2) rfl
set_option maxHeartbeats 4000000 in
set_option maxRecDepth 100000 in
theorem kX3_code (l : Launch) (G : Gl) (tt : Nat) (sh : Nat) (sc : Nat) (ln : Int32) (L : Nat) (F : Nat → Int32) (i : Nat) (n : Nat) (M : Nat) (p0 : Nat) (hip : i + p0 < 60) : Rd l G yX3_code wsX3_code ({ frames := 0, cells := 0, slots := 0, locals := 0 } : Room) [.ref tt, .int (nI p0)] [(tt, .inr (3, [.ref sh, .int (nI i), .int (nI n), .int (nI M), .int (nI (2 + M * (M + 1)))])), (sh, .inr (1, [.ref sc, .int ln, .int (nI L)])), (sc, aI G 60 F)] (some (.int (F (i + p0)))) := by
  refine Rd.ofI (cc := cX3_code) (maxL := 2) (by decide) rfl (Nat.le_of_ble_eq_true rfl) ?_
  intro p e s m below meth c Q ls hE hP hK hl hret
  obtain ⟨hx, hb, hml, hown, hts⟩ := id hE
  have hl : lv_has ls 2 [(0, .ref tt), (1, .int (nI p0))] := hl
  refine lv_aload_n hx hb dX3_code_0 rfl (lv_at hl 0 rfl) ?_
  refine g_get (v := .ref sh) hx hb hts ixX3_code_X3 hown hK hP 0 rfl rfl 0 (by decide) lkX3_code_9 rfl dX3_code_1 ?_
  refine g_getN (v := .ref sc) hx hb hts ixX3_code_X1 hown hK hP 1 rfl rfl 0 (by decide) nkX3_22 rfl dX3_code_4 ?_
  refine lv_aload_n hx hb dX3_code_7 rfl (lv_at hl 0 rfl) ?_
  refine g_get (v := .int (nI i)) hx hb hts ixX3_code_X3 hown hK hP 0 rfl rfl 1 (by decide) lkX3_code_15 rfl dX3_code_8 ?_
  refine lv_iload_n hx hb dX3_code_11 rfl (lv_at hl 1 rfl) ?_
  refine lv_iadd hx hb dX3_code_12 ?_
  refine lv_tope (show (nI i) + (nI p0) = nI (i + p0) from nI_add _ _) ?_
  refine n_ald hx hb hK hP 2 rfl (k := i + p0) (by omega) (by decide) dX3_code_13 ?_
  exact hret _ _ _ (by first | with_reducible rfl | (simp only []; done) | contradiction) dX3_code_14

theorem ixX3_fitsDebt_X3 : ∀ w ∈ wsX30, w ∈ wsX3_fitsDebt := fun _ h => List.mem_cons_of_mem _ (List.mem_append_left _ (List.mem_append_right _ h))
theorem lkX3_fitsDebt_28 : Cond.fieldLink RX3 28 (TX3 3).1 (TX3 3).2.1 (TX3 3).2.2.1 ∈ wsX3_fitsDebt := List.mem_of_getElem? (i := 1) rfl
set_option maxHeartbeats 4000000 in
set_option maxRecDepth 100000 in
theorem kX3_fitsDebt (l : Launch) (G : Gl) (tt : Nat) (sh : Nat) (sc : Nat) (ln : Int32) (L : Nat) (F : Nat → Int32) (i : Nat) (n : Nat) (M : Nat) (p0 : Nat) (hM2 : 2 ≤ M) (hM : M ≤ 5) (hp2 : 2 ≤ p0) (hip : i + p0 < 60) : Rd l G yX3_fitsDebt wsX3_fitsDebt ({ frames := 1, cells := 0, slots := 0, locals := 21 } : Room) [.ref tt, .int (nI p0)] [(tt, .inr (3, [.ref sh, .int (nI i), .int (nI n), .int (nI M), .int (nI (2 + M * (M + 1)))])), (sh, .inr (1, [.ref sc, .int ln, .int (nI L)])), (sc, aI G 60 F)] (some (.int (bI (fitD (fun t => F (i + t)) M p0)))) := by
  refine Rd.ofZ (cc := cX3_fitsDebt) (maxL := 5) (by decide) rfl (Nat.le_of_ble_eq_true rfl) ?_
  intro p e s m below meth c Q ls hE hP hK hl hret
  obtain ⟨hx, hb, hml, hown, hts⟩ := id hE
  have hl : lv_has ls 5 [(0, .ref tt), (1, .int (nI p0))] := hl
  have hdl := Nat.div_le_self (p0 - 2) (M + 1)
  have hml := Nat.mod_lt (p0 - 2) (show 0 < M + 1 by omega)
  refine lv_iload_n hx hb dX3_fitsDebt_0 rfl (lv_at hl 1 rfl) ?_
  refine lv_iconst (v := nI 2) hx hb dX3_fitsDebt_1 (by decide) ?_
  refine lv_isub hx hb dX3_fitsDebt_2 ?_
  refine lv_tope (show (nI p0) - (nI 2) = nI (p0 - 2) from pk_sub (by omega)) ?_
  refine lv_aload_n hx hb dX3_fitsDebt_3 rfl (lv_at hl 0 rfl) ?_
  refine g_get (v := .int (nI M)) hx hb hts ixX3_fitsDebt_X3 hown hK hP 0 rfl rfl 3 (by decide) lkX3_fitsDebt_28 rfl dX3_fitsDebt_4 ?_
  refine lv_iconst (v := nI 1) hx hb dX3_fitsDebt_7 (by decide) ?_
  refine lv_iadd hx hb dX3_fitsDebt_8 ?_
  refine lv_tope (show (nI M) + (nI 1) = nI (M + 1) from nI_add _ _) ?_
  refine lv_idiv hx hb dX3_fitsDebt_9 (nI_ne0 (by omega) (by omega)) ?_
  refine lv_tope (show (nI (p0 - 2)) / (nI (M + 1)) = nI ((p0 - 2) / (M + 1)) from pk_div (by omega) (by omega) (by omega)) ?_
  refine lv_istore_n (lv' := [(2, .int (nI ((p0 - 2) / (M + 1)))), (0, .ref tt), (1, .int (nI p0))]) hx hb dX3_fitsDebt_10 rfl hl (by decide) rfl (fun ls hl => ?_)
  refine lv_iload_n hx hb dX3_fitsDebt_11 rfl (lv_at hl 2 rfl) ?_
  refine lv_iconst (v := nI 2) hx hb dX3_fitsDebt_12 (by decide) ?_
  refine lv_isub hx hb dX3_fitsDebt_13 ?_
  refine lv_tope (show (nI p0) - (nI 2) = nI (p0 - 2) from pk_sub (by omega)) ?_
  refine lv_aload_n hx hb dX3_fitsDebt_14 rfl (lv_at hl 1 rfl) ?_
  refine g_get (v := .int (nI M)) hx hb hts ixX3_fitsDebt_X3 hown hK hP 0 rfl rfl 3 (by decide) lkX3_fitsDebt_28 rfl dX3_fitsDebt_15 ?_
  refine lv_iconst (v := nI 1) hx hb dX3_fitsDebt_18 (by decide) ?_
  refine lv_iadd hx hb dX3_fitsDebt_19 ?_
  refine lv_tope (show (nI M) + (nI 1) = nI (M + 1) from nI_add _ _) ?_
  refine lv_irem hx hb dX3_fitsDebt_20 (nI_ne0 (by omega) (by omega)) ?_
  refine lv_tope (show (nI (p0 - 2)) - (nI (p0 - 2)) / (nI (M + 1)) * (nI (M + 1)) = nI ((p0 - 2) % (M + 1)) from pk_rem (by omega) (by omega) (by omega)) ?_
  refine lv_istore_n (lv' := [(3, .int (nI ((p0 - 2) % (M + 1)))), (2, .int (nI ((p0 - 2) / (M + 1)))), (0, .ref tt), (1, .int (nI p0))]) hx hb dX3_fitsDebt_21 rfl hl (by decide) rfl (fun ls hl => ?_)
  refine lv_iload_n hx hb dX3_fitsDebt_22 rfl (lv_at hl 0 rfl) ?_
  refine iz_ne (tgt := 42) hx hb (by omega) dX3_fitsDebt_23 (by decide) (fun c1 => ?_) (fun c1 => ?_)
  ·
    refine lv_iload_n hx hb dX3_fitsDebt_42 rfl (lv_at hl 0 rfl) ?_
    refine lv_iconst (v := nI 1) hx hb dX3_fitsDebt_43 (by decide) ?_
    refine lv_isub hx hb dX3_fitsDebt_44 ?_
    refine lv_tope (show (nI ((p0 - 2) % (M + 1))) - (nI 1) = nI (((p0 - 2) % (M + 1)) - 1) from pk_sub (by omega)) ?_
    refine lv_iload_n hx hb dX3_fitsDebt_45 rfl (lv_at hl 1 rfl) ?_
    refine ic_ne (tgt := 53) hx hb (by omega) (by omega) dX3_fitsDebt_46 (by decide) (fun c2 => ?_) (fun c2 => ?_)
    ·
      refine lv_iconst (v := nI 0) hx hb dX3_fitsDebt_53 (by decide) ?_
      refine lv_istore (lv' := [(4, .int (nI 0)), (3, .int (nI ((p0 - 2) % (M + 1)))), (2, .int (nI ((p0 - 2) / (M + 1)))), (0, .ref tt), (1, .int (nI p0))]) hx hb dX3_fitsDebt_54 hl (by decide) rfl (fun ls hl => ?_)
      refine lv_aload_n hx hb dX3_fitsDebt_56 rfl (lv_at hl 3 rfl) ?_
      refine lv_iload_n hx hb dX3_fitsDebt_57 rfl (lv_at hl 4 rfl) ?_
      refine rdV (As := [.int (nI p0)]) (rest := []) (ci := 3) (q0 := 0) hE (kX3_code l G tt sh sc ln L F i n M p0 hip) (cwV 1 hts gX3_fitsDebt_X3_code rfl rfl rfl (by decide +kernel) ⟨Nat.le_of_ble_eq_true rfl, Nat.le_of_ble_eq_true rfl⟩) hP hK [0, 1, 2] rfl rfl rfl rfl hl.1 rfl (Nat.le_of_ble_eq_true rfl) dX3_fitsDebt_58 ⟨Nat.zero_le _, Nat.zero_le _⟩ ?_
      refine W.eq (g2 := F0 m 61 ls [.int (F (i + p0))]) rfl ?_
      refine lv_bipush (v := nI 48) hx hb dX3_fitsDebt_61 (by decide) ?_
      refine lv_icmp_lt (tgt := 90) hx hb dX3_fitsDebt_63 (by decide) (fun c3 => ?_) (fun c3 => ?_)
      ·
        refine lv_iconst (v := nI 0) hx hb dX3_fitsDebt_90 (by decide) ?_
        exact hret _ _ _ ((bI_f (fun h : fitD (fun t => F (i + t)) M p0 => (h.2 c1).1 c3)).symm) dX3_fitsDebt_91
      ·
        refine lv_aload_n hx hb dX3_fitsDebt_66 rfl (lv_at hl 3 rfl) ?_
        refine lv_iload_n hx hb dX3_fitsDebt_67 rfl (lv_at hl 4 rfl) ?_
        refine rdV (As := [.int (nI p0)]) (rest := []) (ci := 3) (q0 := 0) hE (kX3_code l G tt sh sc ln L F i n M p0 hip) (cwV 1 hts gX3_fitsDebt_X3_code rfl rfl rfl (by decide +kernel) ⟨Nat.le_of_ble_eq_true rfl, Nat.le_of_ble_eq_true rfl⟩) hP hK [0, 1, 2] rfl rfl rfl rfl hl.1 rfl (Nat.le_of_ble_eq_true rfl) dX3_fitsDebt_68 ⟨Nat.zero_le _, Nat.zero_le _⟩ ?_
        refine W.eq (g2 := F0 m 71 ls [.int (F (i + p0))]) rfl ?_
        refine lv_iload hx hb dX3_fitsDebt_71 (lv_at hl 0 rfl) ?_
        refine iz_eq (tgt := 81) hx hb (by decide) dX3_fitsDebt_73 (by decide) (fun c4 => ?_) (fun c4 => ?_)
        ·
          refine lv_bipush (v := nI 57) hx hb dX3_fitsDebt_81 (by decide) ?_
          refine lv_icmp_gt (tgt := 90) hx hb dX3_fitsDebt_83 (by decide) (fun c5 => ?_) (fun c5 => ?_)
          ·
            refine lv_iconst (v := nI 0) hx hb dX3_fitsDebt_90 (by decide) ?_
            exact hret _ _ _ ((bI_f (fun h : fitD (fun t => F (i + t)) M p0 => (h.2 c1).2 (by rw [iF_f c2]; exact c5))).symm) dX3_fitsDebt_91
          ·
            refine lv_iconst (v := nI 1) hx hb dX3_fitsDebt_86 (by decide) ?_
            refine lv_goto (tgt := 91) hx hb dX3_fitsDebt_87 (by decide) ?_
            exact hret _ _ _ ((bI_t (show fitD (fun t => F (i + t)) M p0 from ⟨fun h => absurd h c1, fun _ => ⟨c3, by rw [iF_f c2]; exact c5⟩⟩)).symm) dX3_fitsDebt_91
        ·
          exact absurd c4 (by decide)
    ·
      refine lv_iconst (v := nI 1) hx hb dX3_fitsDebt_49 (by decide) ?_
      refine lv_goto (tgt := 54) hx hb dX3_fitsDebt_50 (by decide) ?_
      refine lv_istore (lv' := [(4, .int (nI 1)), (3, .int (nI ((p0 - 2) % (M + 1)))), (2, .int (nI ((p0 - 2) / (M + 1)))), (0, .ref tt), (1, .int (nI p0))]) hx hb dX3_fitsDebt_54 hl (by decide) rfl (fun ls hl => ?_)
      refine lv_aload_n hx hb dX3_fitsDebt_56 rfl (lv_at hl 3 rfl) ?_
      refine lv_iload_n hx hb dX3_fitsDebt_57 rfl (lv_at hl 4 rfl) ?_
      refine rdV (As := [.int (nI p0)]) (rest := []) (ci := 3) (q0 := 0) hE (kX3_code l G tt sh sc ln L F i n M p0 hip) (cwV 1 hts gX3_fitsDebt_X3_code rfl rfl rfl (by decide +kernel) ⟨Nat.le_of_ble_eq_true rfl, Nat.le_of_ble_eq_true rfl⟩) hP hK [0, 1, 2] rfl rfl rfl rfl hl.1 rfl (Nat.le_of_ble_eq_true rfl) dX3_fitsDebt_58 ⟨Nat.zero_le _, Nat.zero_le _⟩ ?_
      refine W.eq (g2 := F0 m 61 ls [.int (F (i + p0))]) rfl ?_
      refine lv_bipush (v := nI 48) hx hb dX3_fitsDebt_61 (by decide) ?_
      refine lv_icmp_lt (tgt := 90) hx hb dX3_fitsDebt_63 (by decide) (fun c6 => ?_) (fun c6 => ?_)
      ·
        refine lv_iconst (v := nI 0) hx hb dX3_fitsDebt_90 (by decide) ?_
        exact hret _ _ _ ((bI_f (fun h : fitD (fun t => F (i + t)) M p0 => (h.2 c1).1 c6)).symm) dX3_fitsDebt_91
      ·
        refine lv_aload_n hx hb dX3_fitsDebt_66 rfl (lv_at hl 3 rfl) ?_
        refine lv_iload_n hx hb dX3_fitsDebt_67 rfl (lv_at hl 4 rfl) ?_
        refine rdV (As := [.int (nI p0)]) (rest := []) (ci := 3) (q0 := 0) hE (kX3_code l G tt sh sc ln L F i n M p0 hip) (cwV 1 hts gX3_fitsDebt_X3_code rfl rfl rfl (by decide +kernel) ⟨Nat.le_of_ble_eq_true rfl, Nat.le_of_ble_eq_true rfl⟩) hP hK [0, 1, 2] rfl rfl rfl rfl hl.1 rfl (Nat.le_of_ble_eq_true rfl) dX3_fitsDebt_68 ⟨Nat.zero_le _, Nat.zero_le _⟩ ?_
        refine W.eq (g2 := F0 m 71 ls [.int (F (i + p0))]) rfl ?_
        refine lv_iload hx hb dX3_fitsDebt_71 (lv_at hl 0 rfl) ?_
        refine iz_eq (tgt := 81) hx hb (by decide) dX3_fitsDebt_73 (by decide) (fun c7 => ?_) (fun c7 => ?_)
        ·
          exact absurd c7 (by decide)
        ·
          refine lv_bipush (v := nI 48) hx hb dX3_fitsDebt_76 (by decide) ?_
          refine lv_goto (tgt := 83) hx hb dX3_fitsDebt_78 (by decide) ?_
          refine lv_icmp_gt (tgt := 90) hx hb dX3_fitsDebt_83 (by decide) (fun c8 => ?_) (fun c8 => ?_)
          ·
            refine lv_iconst (v := nI 0) hx hb dX3_fitsDebt_90 (by decide) ?_
            exact hret _ _ _ ((bI_f (fun h : fitD (fun t => F (i + t)) M p0 => (h.2 c1).2 (by rw [iF_t c2]; exact c8))).symm) dX3_fitsDebt_91
          ·
            refine lv_iconst (v := nI 1) hx hb dX3_fitsDebt_86 (by decide) ?_
            refine lv_goto (tgt := 91) hx hb dX3_fitsDebt_87 (by decide) ?_
            exact hret _ _ _ ((bI_t (show fitD (fun t => F (i + t)) M p0 from ⟨fun h => absurd h c1, fun _ => ⟨c6, by rw [iF_t c2]; exact c8⟩⟩)).symm) dX3_fitsDebt_91
  ·
    refine lv_aload_n hx hb dX3_fitsDebt_26 rfl (lv_at hl 2 rfl) ?_
    refine lv_iload_n hx hb dX3_fitsDebt_27 rfl (lv_at hl 3 rfl) ?_
    refine rdV (As := [.int (nI p0)]) (rest := []) (ci := 3) (q0 := 0) hE (kX3_code l G tt sh sc ln L F i n M p0 hip) (cwV 1 hts gX3_fitsDebt_X3_code rfl rfl rfl (by decide +kernel) ⟨Nat.le_of_ble_eq_true rfl, Nat.le_of_ble_eq_true rfl⟩) hP hK [0, 1, 2] rfl rfl rfl rfl hl.1 rfl (Nat.le_of_ble_eq_true rfl) dX3_fitsDebt_28 ⟨Nat.zero_le _, Nat.zero_le _⟩ ?_
    refine W.eq (g2 := F0 m 31 ls [.int (F (i + p0))]) rfl ?_
    refine lv_bipush (v := nI 44) hx hb dX3_fitsDebt_31 (by decide) ?_
    refine lv_icmp_ne (tgt := 40) hx hb dX3_fitsDebt_33 (by decide) (fun c9 => ?_) (fun c9 => ?_)
    ·
      refine lv_iconst (v := nI 0) hx hb dX3_fitsDebt_40 (by decide) ?_
      exact hret _ _ _ ((bI_f (fun h : fitD (fun t => F (i + t)) M p0 => c9 (h.1 c1))).symm) dX3_fitsDebt_41
    ·
      refine lv_iconst (v := nI 1) hx hb dX3_fitsDebt_36 (by decide) ?_
      refine lv_goto (tgt := 41) hx hb dX3_fitsDebt_37 (by decide) ?_
      exact hret _ _ _ ((bI_t (show fitD (fun t => F (i + t)) M p0 from ⟨fun _ => c9, fun h => absurd c1 h⟩)).symm) dX3_fitsDebt_41

theorem ixX3_fitsBoy_X3 : ∀ w ∈ wsX30, w ∈ wsX3_fitsBoy := fun _ h => List.mem_cons_of_mem _ (List.mem_append_left _ (List.mem_append_right _ h))
theorem lkX3_fitsBoy_31 : Cond.fieldLink RX3 31 (TX3 4).1 (TX3 4).2.1 (TX3 4).2.2.1 ∈ wsX3_fitsBoy := List.mem_of_getElem? (i := 1) rfl
theorem lkX3_fitsBoy_28 : Cond.fieldLink RX3 28 (TX3 3).1 (TX3 3).2.1 (TX3 3).2.2.1 ∈ wsX3_fitsBoy := List.mem_of_getElem? (i := 2) rfl
set_option maxHeartbeats 4000000 in
set_option maxRecDepth 100000 in
theorem kX3_fitsBoy (l : Launch) (G : Gl) (tt : Nat) (sh : Nat) (sc : Nat) (ln : Int32) (L : Nat) (F : Nat → Int32) (i : Nat) (n : Nat) (M : Nat) (p0 : Nat) (hM2 : 2 ≤ M) (hM : M ≤ 5) (hpf : 2 + M * (M + 1) ≤ p0) (hip : i + p0 < 60) : Rd l G yX3_fitsBoy wsX3_fitsBoy ({ frames := 1, cells := 0, slots := 0, locals := 21 } : Room) [.ref tt, .int (nI p0)] [(tt, .inr (3, [.ref sh, .int (nI i), .int (nI n), .int (nI M), .int (nI (2 + M * (M + 1)))])), (sh, .inr (1, [.ref sc, .int ln, .int (nI L)])), (sc, aI G 60 F)] (some (.int (bI (fitB (fun t => F (i + t)) M p0)))) := by
  refine Rd.ofZ (cc := cX3_fitsBoy) (maxL := 3) (by decide) rfl (Nat.le_of_ble_eq_true rfl) ?_
  intro p e s m below meth c Q ls hE hP hK hl hret
  obtain ⟨hx, hb, hml, hown, hts⟩ := id hE
  have hl : lv_has ls 3 [(0, .ref tt), (1, .int (nI p0))] := hl
  have hmm := mm_le M hM
  refine lv_iload_n hx hb dX3_fitsBoy_0 rfl (lv_at hl 1 rfl) ?_
  refine lv_aload_n hx hb dX3_fitsBoy_1 rfl (lv_at hl 0 rfl) ?_
  refine g_get (v := .int (nI (2 + M * (M + 1)))) hx hb hts ixX3_fitsBoy_X3 hown hK hP 0 rfl rfl 4 (by decide) lkX3_fitsBoy_31 rfl dX3_fitsBoy_2 ?_
  refine lv_isub hx hb dX3_fitsBoy_5 ?_
  refine lv_tope (show (nI p0) - (nI (2 + M * (M + 1))) = nI (p0 - (2 + M * (M + 1))) from pk_sub (by omega)) ?_
  refine lv_iconst (v := nI 3) hx hb dX3_fitsBoy_6 (by decide) ?_
  refine lv_idiv hx hb dX3_fitsBoy_7 (by decide) ?_
  refine lv_tope (show (nI (p0 - (2 + M * (M + 1)))) / (nI 3) = nI ((p0 - (2 + M * (M + 1))) / 3) from pk_div (by omega) (by omega) (by omega)) ?_
  refine lv_istore_n (lv' := [(2, .int (nI ((p0 - (2 + M * (M + 1))) / 3))), (0, .ref tt), (1, .int (nI p0))]) hx hb dX3_fitsBoy_8 rfl hl (by decide) rfl (fun ls hl => ?_)
  refine lv_iload_n hx hb dX3_fitsBoy_9 rfl (lv_at hl 2 rfl) ?_
  refine lv_aload_n hx hb dX3_fitsBoy_10 rfl (lv_at hl 1 rfl) ?_
  refine g_get (v := .int (nI (2 + M * (M + 1)))) hx hb hts ixX3_fitsBoy_X3 hown hK hP 0 rfl rfl 4 (by decide) lkX3_fitsBoy_31 rfl dX3_fitsBoy_11 ?_
  refine lv_isub hx hb dX3_fitsBoy_14 ?_
  refine lv_tope (show (nI p0) - (nI (2 + M * (M + 1))) = nI (p0 - (2 + M * (M + 1))) from pk_sub (by omega)) ?_
  refine lv_iconst (v := nI 3) hx hb dX3_fitsBoy_15 (by decide) ?_
  refine lv_irem hx hb dX3_fitsBoy_16 (by decide) ?_
  refine lv_tope (show (nI (p0 - (2 + M * (M + 1)))) - (nI (p0 - (2 + M * (M + 1)))) / (nI 3) * (nI 3) = nI ((p0 - (2 + M * (M + 1))) % 3) from pk_rem (by omega) (by omega) (by omega)) ?_
  by_cases c1 : (p0 - (2 + M * (M + 1))) % 3 = 0
  ·
    refine lv_lookup (tgt := 44) (off := 27) hx hb dX3_fitsBoy_17 (by decide) (by rw [c1]; decide) (by decide) ?_
    refine lv_aload_n hx hb dX3_fitsBoy_44 rfl (lv_at hl 1 rfl) ?_
    refine lv_iload_n hx hb dX3_fitsBoy_45 rfl (lv_at hl 2 rfl) ?_
    refine rdV (As := [.int (nI p0)]) (rest := []) (ci := 3) (q0 := 0) hE (kX3_code l G tt sh sc ln L F i n M p0 hip) (cwV 1 hts gX3_fitsBoy_X3_code rfl rfl rfl (by decide +kernel) ⟨Nat.le_of_ble_eq_true rfl, Nat.le_of_ble_eq_true rfl⟩) hP hK [0, 1, 2] rfl rfl rfl rfl hl.1 rfl (Nat.le_of_ble_eq_true rfl) dX3_fitsBoy_46 ⟨Nat.zero_le _, Nat.zero_le _⟩ ?_
    refine W.eq (g2 := F0 m 49 ls [.int (F (i + p0))]) rfl ?_
    refine lv_bipush (v := nI 59) hx hb dX3_fitsBoy_49 (by decide) ?_
    refine lv_icmp_ne (tgt := 63) hx hb dX3_fitsBoy_51 (by decide) (fun c2 => ?_) (fun c2 => ?_)
    ·
      refine lv_iconst (v := nI 0) hx hb dX3_fitsBoy_63 (by decide) ?_
      exact hret _ _ _ ((bI_f (fun h : fitB (fun t => F (i + t)) M p0 => by have q := h.1 c1; first | exact c2 q.1 | omega)).symm) dX3_fitsBoy_64
    ·
      refine lv_iload_n hx hb dX3_fitsBoy_54 rfl (lv_at hl 0 rfl) ?_
      refine lv_iconst (v := nI 4) hx hb dX3_fitsBoy_55 (by decide) ?_
      refine ic_ge (tgt := 63) hx hb (by omega) (by omega) dX3_fitsBoy_56 (by decide) (fun c3 => ?_) (fun c3 => ?_)
      ·
        refine lv_iconst (v := nI 0) hx hb dX3_fitsBoy_63 (by decide) ?_
        exact hret _ _ _ ((bI_f (fun h : fitB (fun t => F (i + t)) M p0 => by have q := h.1 c1; first | exact c2 q.1 | omega)).symm) dX3_fitsBoy_64
      ·
        refine lv_iconst (v := nI 1) hx hb dX3_fitsBoy_59 (by decide) ?_
        refine lv_goto (tgt := 64) hx hb dX3_fitsBoy_60 (by decide) ?_
        exact hret _ _ _ ((bI_t (show fitB (fun t => F (i + t)) M p0 from ⟨fun _ => ⟨c2, c3⟩, fun h => absurd h (by omega), fun h => absurd c1 h⟩)).symm) dX3_fitsBoy_64
  ·
    by_cases c4 : (p0 - (2 + M * (M + 1))) % 3 = 1
    ·
      refine lv_lookup (tgt := 65) (off := 48) hx hb dX3_fitsBoy_17 (by decide) (by rw [c4]; decide) (by decide) ?_
      refine lv_aload_n hx hb dX3_fitsBoy_65 rfl (lv_at hl 1 rfl) ?_
      refine lv_iload_n hx hb dX3_fitsBoy_66 rfl (lv_at hl 2 rfl) ?_
      refine rdV (As := [.int (nI p0)]) (rest := []) (ci := 3) (q0 := 0) hE (kX3_code l G tt sh sc ln L F i n M p0 hip) (cwV 1 hts gX3_fitsBoy_X3_code rfl rfl rfl (by decide +kernel) ⟨Nat.le_of_ble_eq_true rfl, Nat.le_of_ble_eq_true rfl⟩) hP hK [0, 1, 2] rfl rfl rfl rfl hl.1 rfl (Nat.le_of_ble_eq_true rfl) dX3_fitsBoy_67 ⟨Nat.zero_le _, Nat.zero_le _⟩ ?_
      refine W.eq (g2 := F0 m 70 ls [.int (F (i + p0))]) rfl ?_
      refine lv_bipush (v := nI 98) hx hb dX3_fitsBoy_70 (by decide) ?_
      refine lv_icmp_lt (tgt := 89) hx hb dX3_fitsBoy_72 (by decide) (fun c5 => ?_) (fun c5 => ?_)
      ·
        refine lv_iconst (v := nI 0) hx hb dX3_fitsBoy_89 (by decide) ?_
        exact hret _ _ _ ((bI_f (fun h : fitB (fun t => F (i + t)) M p0 => by have q := h.2.1 c4; first | exact q.1 c5 | exact q.2 c5)).symm) dX3_fitsBoy_90
      ·
        refine lv_aload_n hx hb dX3_fitsBoy_75 rfl (lv_at hl 1 rfl) ?_
        refine lv_iload_n hx hb dX3_fitsBoy_76 rfl (lv_at hl 2 rfl) ?_
        refine rdV (As := [.int (nI p0)]) (rest := []) (ci := 3) (q0 := 0) hE (kX3_code l G tt sh sc ln L F i n M p0 hip) (cwV 1 hts gX3_fitsBoy_X3_code rfl rfl rfl (by decide +kernel) ⟨Nat.le_of_ble_eq_true rfl, Nat.le_of_ble_eq_true rfl⟩) hP hK [0, 1, 2] rfl rfl rfl rfl hl.1 rfl (Nat.le_of_ble_eq_true rfl) dX3_fitsBoy_77 ⟨Nat.zero_le _, Nat.zero_le _⟩ ?_
        refine W.eq (g2 := F0 m 80 ls [.int (F (i + p0))]) rfl ?_
        refine lv_bipush (v := nI 100) hx hb dX3_fitsBoy_80 (by decide) ?_
        refine lv_icmp_gt (tgt := 89) hx hb dX3_fitsBoy_82 (by decide) (fun c6 => ?_) (fun c6 => ?_)
        ·
          refine lv_iconst (v := nI 0) hx hb dX3_fitsBoy_89 (by decide) ?_
          exact hret _ _ _ ((bI_f (fun h : fitB (fun t => F (i + t)) M p0 => by have q := h.2.1 c4; first | exact q.1 c5 | exact q.2 c6)).symm) dX3_fitsBoy_90
        ·
          refine lv_iconst (v := nI 1) hx hb dX3_fitsBoy_85 (by decide) ?_
          refine lv_goto (tgt := 90) hx hb dX3_fitsBoy_86 (by decide) ?_
          exact hret _ _ _ ((bI_t (show fitB (fun t => F (i + t)) M p0 from ⟨fun h => absurd h (by omega), fun _ => ⟨c5, c6⟩, fun _ h => absurd c4 h⟩)).symm) dX3_fitsBoy_90
    ·
      refine lv_lookup (tgt := 91) (off := 74) hx hb dX3_fitsBoy_17 (by decide) (by rw [lv_osw (k := 0) (fun h => c1 ((nI_eq (by omega) (by omega)).mp (show nI ((p0 - (2 + M * (M + 1))) % 3) = nI 0 from h))) (by decide), lv_osw (k := 1) (fun h => c4 ((nI_eq (by omega) (by omega)).mp (show nI ((p0 - (2 + M * (M + 1))) % 3) = nI 1 from h))) (by decide)]; rfl) (by decide) ?_
      refine lv_aload_n hx hb dX3_fitsBoy_91 rfl (lv_at hl 1 rfl) ?_
      refine lv_iload_n hx hb dX3_fitsBoy_92 rfl (lv_at hl 2 rfl) ?_
      refine rdV (As := [.int (nI p0)]) (rest := []) (ci := 3) (q0 := 0) hE (kX3_code l G tt sh sc ln L F i n M p0 hip) (cwV 1 hts gX3_fitsBoy_X3_code rfl rfl rfl (by decide +kernel) ⟨Nat.le_of_ble_eq_true rfl, Nat.le_of_ble_eq_true rfl⟩) hP hK [0, 1, 2] rfl rfl rfl rfl hl.1 rfl (Nat.le_of_ble_eq_true rfl) dX3_fitsBoy_93 ⟨Nat.zero_le _, Nat.zero_le _⟩ ?_
      refine W.eq (g2 := F0 m 96 ls [.int (F (i + p0))]) rfl ?_
      refine lv_bipush (v := nI 48) hx hb dX3_fitsBoy_96 (by decide) ?_
      refine lv_icmp_lt (tgt := 120) hx hb dX3_fitsBoy_98 (by decide) (fun c7 => ?_) (fun c7 => ?_)
      ·
        refine lv_iconst (v := nI 0) hx hb dX3_fitsBoy_120 (by decide) ?_
        exact hret _ _ _ ((bI_f (fun h : fitB (fun t => F (i + t)) M p0 => by have q := h.2.2 c1 c4; first | exact q.1 c7 | exact q.2 c7)).symm) dX3_fitsBoy_121
      ·
        refine lv_aload_n hx hb dX3_fitsBoy_101 rfl (lv_at hl 1 rfl) ?_
        refine lv_iload_n hx hb dX3_fitsBoy_102 rfl (lv_at hl 2 rfl) ?_
        refine rdV (As := [.int (nI p0)]) (rest := []) (ci := 3) (q0 := 0) hE (kX3_code l G tt sh sc ln L F i n M p0 hip) (cwV 1 hts gX3_fitsBoy_X3_code rfl rfl rfl (by decide +kernel) ⟨Nat.le_of_ble_eq_true rfl, Nat.le_of_ble_eq_true rfl⟩) hP hK [0, 1, 2] rfl rfl rfl rfl hl.1 rfl (Nat.le_of_ble_eq_true rfl) dX3_fitsBoy_103 ⟨Nat.zero_le _, Nat.zero_le _⟩ ?_
        refine W.eq (g2 := F0 m 106 ls [.int (F (i + p0))]) rfl ?_
        refine lv_bipush (v := nI 48) hx hb dX3_fitsBoy_106 (by decide) ?_
        refine lv_aload_n hx hb dX3_fitsBoy_108 rfl (lv_at hl 1 rfl) ?_
        refine g_get (v := .int (nI M)) hx hb hts ixX3_fitsBoy_X3 hown hK hP 0 rfl rfl 3 (by decide) lkX3_fitsBoy_28 rfl dX3_fitsBoy_109 ?_
        refine lv_iadd hx hb dX3_fitsBoy_112 ?_
        refine lv_tope (show (nI 48) + (nI M) = nI (48 + M) from nI_add _ _) ?_
        refine lv_icmp_ge (tgt := 120) hx hb dX3_fitsBoy_113 (by decide) (fun c8 => ?_) (fun c8 => ?_)
        ·
          refine lv_iconst (v := nI 0) hx hb dX3_fitsBoy_120 (by decide) ?_
          exact hret _ _ _ ((bI_f (fun h : fitB (fun t => F (i + t)) M p0 => by have q := h.2.2 c1 c4; first | exact q.1 c7 | exact q.2 c8)).symm) dX3_fitsBoy_121
        ·
          refine lv_iconst (v := nI 1) hx hb dX3_fitsBoy_116 (by decide) ?_
          refine lv_goto (tgt := 121) hx hb dX3_fitsBoy_117 (by decide) ?_
          exact hret _ _ _ ((bI_t (show fitB (fun t => F (i + t)) M p0 from ⟨fun h => absurd h c1, fun h => absurd h c4, fun _ _ => ⟨c7, c8⟩⟩)).symm) dX3_fitsBoy_121
