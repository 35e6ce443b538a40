theorem nkX4_119 : Cond.fieldLinkNest RX4 119 (TX2 3).1 (TX2 3).2.1 (TX2 3).2.2.1 "SolsticeBoys" ∈ nestW := by decide +kernel
theorem nkX4_76 : Cond.fieldLinkNest RX4 76 (TX2 4).1 (TX2 4).2.1 (TX2 4).2.2.1 "SolsticeBoys" ∈ nestW := by decide +kernel
theorem nkX4_82 : Cond.fieldLinkNest RX4 82 (TX2 1).1 (TX2 1).2.1 (TX2 1).2.2.1 "SolsticeBoys" ∈ nestW := by decide +kernel
theorem nkX4_86 : Cond.fieldLinkNest RX4 86 (TX2 2).1 (TX2 2).2.1 (TX2 2).2.2.1 "SolsticeBoys" ∈ nestW := by decide +kernel
theorem ixX0_note_X0 : ∀ w ∈ wsX00, w ∈ wsX0_note := fun _ h => List.mem_cons_of_mem _ (List.mem_append_right _ h)
theorem lkX0_note_7 : Cond.fieldLink RX0 7 (TX0 0).1 (TX0 0).2.1 (TX0 0).2.2.1 ∈ wsX0_note := List.mem_of_getElem? (i := 1) rfl
theorem lkX0_note_13 : Cond.fieldLink RX0 13 (TX0 1).1 (TX0 1).2.1 (TX0 1).2.2.1 ∈ wsX0_note := List.mem_of_getElem? (i := 2) rfl
theorem lkX0_note_16 : Cond.fieldLink RX0 16 (TX0 2).1 (TX0 2).2.1 (TX0 2).2.2.1 ∈ wsX0_note := List.mem_of_getElem? (i := 3) rfl
theorem lkX0_note_19 : Cond.fieldLink RX0 19 (TX0 3).1 (TX0 3).2.1 (TX0 3).2.2.1 ∈ wsX0_note := List.mem_of_getElem? (i := 4) rfl
set_option maxHeartbeats 4000000 in
set_option maxRecDepth 100000 in
theorem kX0_note (l : Launch) (G : Gl) (r : Nat) (f0 : Int32) (f1 : Int32) (f2 : Int32) (f3 : Int32) (a0 : Int32) (a1 : Int32) (a2 : Int32) (a3 : Int32) : Wt l G yX0_note wsX0_note ({ frames := 0, cells := 0, slots := 0, locals := 0 } : Room) [.ref r, .int a0, .int a1, .int a2, .int a3] [(r, .inr (0, [.int f0, .int f1, .int f2, .int f3]))] [(r, .inr (0, [.int a0, .int a1, .int a2, .int a3]))] none := by
  refine Wt.ofV (cc := cX0_note) (maxL := 5) (by decide) rfl (Nat.le_of_ble_eq_true rfl) ?_
  intro p e s m below meth c Q A ls hE hin hP hK hD hS hl hret
  obtain ⟨hx, hb, hml, hown, hts⟩ := id hE
  have hl : lv_has ls 5 [(0, .ref r), (1, .int a0), (2, .int a1), (3, .int a2), (4, .int a3)] := hl
  refine lv_aload_n hx hb dX0_note_0 rfl (lv_at hl 0 rfl) ?_
  refine lv_iload_n hx hb dX0_note_1 rfl (lv_at hl 1 rfl) ?_
  refine g_put (v := a0) hx hb hts ixX0_note_X0 tyX0 tyX0_ok nmX0 hown hK hP hD hS 0 rfl rfl 0 (by decide) lkX0_note_7 rfl rfl (Nat.le_of_ble_eq_true rfl) dX0_note_2 (fun H locs hP hD hS => ?_)
  have hP : va_P G.1 vwCl [(r, .inr (0, [.int a0, .int f1, .int f2, .int f3]))] H := hP
  have hD : va_D A [(r, .inr (0, [.int a0, .int f1, .int f2, .int f3]))] := hD
  refine lv_aload_n hx hb dX0_note_5 rfl (lv_at hl 0 rfl) ?_
  refine lv_iload_n hx hb dX0_note_6 rfl (lv_at hl 2 rfl) ?_
  refine g_put (v := a1) hx hb hts ixX0_note_X0 tyX0 tyX0_ok nmX0 hown hK hP hD hS 0 rfl rfl 1 (by decide) lkX0_note_13 rfl rfl (Nat.le_of_ble_eq_true rfl) dX0_note_7 (fun H locs hP hD hS => ?_)
  have hP : va_P G.1 vwCl [(r, .inr (0, [.int a0, .int a1, .int f2, .int f3]))] H := hP
  have hD : va_D A [(r, .inr (0, [.int a0, .int a1, .int f2, .int f3]))] := hD
  refine lv_aload_n hx hb dX0_note_10 rfl (lv_at hl 0 rfl) ?_
  refine lv_iload_n hx hb dX0_note_11 rfl (lv_at hl 3 rfl) ?_
  refine g_put (v := a2) hx hb hts ixX0_note_X0 tyX0 tyX0_ok nmX0 hown hK hP hD hS 0 rfl rfl 2 (by decide) lkX0_note_16 rfl rfl (Nat.le_of_ble_eq_true rfl) dX0_note_12 (fun H locs hP hD hS => ?_)
  have hP : va_P G.1 vwCl [(r, .inr (0, [.int a0, .int a1, .int a2, .int f3]))] H := hP
  have hD : va_D A [(r, .inr (0, [.int a0, .int a1, .int a2, .int f3]))] := hD
  refine lv_aload_n hx hb dX0_note_15 rfl (lv_at hl 0 rfl) ?_
  refine lv_iload hx hb dX0_note_16 (lv_at hl 4 rfl) ?_
  refine g_put (v := a3) hx hb hts ixX0_note_X0 tyX0 tyX0_ok nmX0 hown hK hP hD hS 0 rfl rfl 3 (by decide) lkX0_note_19 rfl rfl (Nat.le_of_ble_eq_true rfl) dX0_note_18 (fun H locs hP hD hS => ?_)
  have hP : va_P G.1 vwCl [(r, .inr (0, [.int a0, .int a1, .int a2, .int a3]))] H := hP
  have hD : va_D A [(r, .inr (0, [.int a0, .int a1, .int a2, .int a3]))] := hD
  exact hret _ _ _ _ (hP) hS dX0_note_21

theorem ixX0_init_X0 : ∀ w ∈ wsX00, w ∈ wsX0_init := fun _ h => List.mem_cons_of_mem _ (List.mem_append_right _ h)
theorem lkX0_init_7 : Cond.fieldLink RX0 7 (TX0 0).1 (TX0 0).2.1 (TX0 0).2.2.1 ∈ wsX0_init := List.mem_of_getElem? (i := 4) rfl
theorem lkX0_init_13 : Cond.fieldLink RX0 13 (TX0 1).1 (TX0 1).2.1 (TX0 1).2.2.1 ∈ wsX0_init := List.mem_of_getElem? (i := 5) rfl
theorem lkX0_init_16 : Cond.fieldLink RX0 16 (TX0 2).1 (TX0 2).2.1 (TX0 2).2.2.1 ∈ wsX0_init := List.mem_of_getElem? (i := 6) rfl
theorem lkX0_init_19 : Cond.fieldLink RX0 19 (TX0 3).1 (TX0 3).2.1 (TX0 3).2.2.1 ∈ wsX0_init := List.mem_of_getElem? (i := 7) rfl
set_option maxHeartbeats 4000000 in
set_option maxRecDepth 100000 in
theorem kX0_init (l : Launch) (G : Gl) (r : Nat) (f0 : Int32) (f1 : Int32) (f2 : Int32) (f3 : Int32) : Wt l G yX0_init wsX0_init ({ frames := 1, cells := 0, slots := 0, locals := 12 } : Room) [.ref r] [(r, .inr (0, [.int f0, .int f1, .int f2, .int f3]))] [(r, .inr (0, [.int (nI 0), .int (nI 0), .int (nI 0), .int (-1)]))] none := by
  refine Wt.ofV (cc := cX0_init) (maxL := 1) (by decide) rfl (Nat.le_of_ble_eq_true rfl) ?_
  intro p e s m below meth c Q A ls hE hin hP hK hD hS hl hret
  obtain ⟨hx, hb, hml, hown, hts⟩ := id hE
  have hl : lv_has ls 1 [(0, .ref r)] := hl
  refine lv_aload_n hx hb dX0_init_0 rfl (lv_at hl 0 rfl) ?_
  refine W.objInit hx hb hown (hts (.methodLink RX0 1 objectInit) (List.mem_of_getElem? (i := 1) rfl)) (hts (.instanceMethod objectInit) (List.mem_of_getElem? (i := 2) rfl)) (hts (.code objectInit ⟨#[0xb1]⟩ 1 none) (List.mem_of_getElem? (i := 3) rfl)) rfl (by rw [hml]; exact hl.1) rfl dX0_init_1 (Nat.le_of_ble_eq_true rfl) (Nat.le_of_ble_eq_true rfl) ?_
  refine W.eq (g2 := F0 m 4 ls []) rfl ?_
  refine lv_aload_n hx hb dX0_init_4 rfl (lv_at hl 0 rfl) ?_
  refine lv_iconst (v := nI 0) hx hb dX0_init_5 (by decide) ?_
  refine g_put (v := (nI 0)) hx hb hts ixX0_init_X0 tyX0 tyX0_ok nmX0 hown hK hP hD hS 0 rfl rfl 0 (by decide) lkX0_init_7 rfl rfl (Nat.le_of_ble_eq_true rfl) dX0_init_6 (fun H locs hP hD hS => ?_)
  have hP : va_P G.1 vwCl [(r, .inr (0, [.int (nI 0), .int f1, .int f2, .int f3]))] H := hP
  have hD : va_D A [(r, .inr (0, [.int (nI 0), .int f1, .int f2, .int f3]))] := hD
  refine lv_aload_n hx hb dX0_init_9 rfl (lv_at hl 0 rfl) ?_
  refine lv_iconst (v := nI 0) hx hb dX0_init_10 (by decide) ?_
  refine g_put (v := (nI 0)) hx hb hts ixX0_init_X0 tyX0 tyX0_ok nmX0 hown hK hP hD hS 0 rfl rfl 1 (by decide) lkX0_init_13 rfl rfl (Nat.le_of_ble_eq_true rfl) dX0_init_11 (fun H locs hP hD hS => ?_)
  have hP : va_P G.1 vwCl [(r, .inr (0, [.int (nI 0), .int (nI 0), .int f2, .int f3]))] H := hP
  have hD : va_D A [(r, .inr (0, [.int (nI 0), .int (nI 0), .int f2, .int f3]))] := hD
  refine lv_aload_n hx hb dX0_init_14 rfl (lv_at hl 0 rfl) ?_
  refine lv_iconst (v := nI 0) hx hb dX0_init_15 (by decide) ?_
  refine g_put (v := (nI 0)) hx hb hts ixX0_init_X0 tyX0 tyX0_ok nmX0 hown hK hP hD hS 0 rfl rfl 2 (by decide) lkX0_init_16 rfl rfl (Nat.le_of_ble_eq_true rfl) dX0_init_16 (fun H locs hP hD hS => ?_)
  have hP : va_P G.1 vwCl [(r, .inr (0, [.int (nI 0), .int (nI 0), .int (nI 0), .int f3]))] H := hP
  have hD : va_D A [(r, .inr (0, [.int (nI 0), .int (nI 0), .int (nI 0), .int f3]))] := hD
  refine lv_aload_n hx hb dX0_init_19 rfl (lv_at hl 0 rfl) ?_
  refine lv_iconst (v := (-1)) hx hb dX0_init_20 (by decide) ?_
  refine g_put (v := (-1)) hx hb hts ixX0_init_X0 tyX0 tyX0_ok nmX0 hown hK hP hD hS 0 rfl rfl 3 (by decide) lkX0_init_19 rfl rfl (Nat.le_of_ble_eq_true rfl) dX0_init_21 (fun H locs hP hD hS => ?_)
  have hP : va_P G.1 vwCl [(r, .inr (0, [.int (nI 0), .int (nI 0), .int (nI 0), .int (-1)]))] H := hP
  have hD : va_D A [(r, .inr (0, [.int (nI 0), .int (nI 0), .int (nI 0), .int (-1)]))] := hD
  exact hret _ _ _ _ (hP) hS dX0_init_24

theorem ixX0_isSoIn_X0 : ∀ w ∈ wsX00, w ∈ wsX0_isSoIn := fun _ h => List.mem_cons_of_mem _ (List.mem_append_left _ (List.mem_append_right _ h))
theorem lkX0_isSoIn_19 : Cond.fieldLink RX0 19 (TX0 3).1 (TX0 3).2.1 (TX0 3).2.2.1 ∈ wsX0_isSoIn := List.mem_of_getElem? (i := 1) rfl
theorem lkX0_isSoIn_7 : Cond.fieldLink RX0 7 (TX0 0).1 (TX0 0).2.1 (TX0 0).2.2.1 ∈ wsX0_isSoIn := List.mem_of_getElem? (i := 2) rfl
theorem lkX0_isSoIn_16 : Cond.fieldLink RX0 16 (TX0 2).1 (TX0 2).2.1 (TX0 2).2.2.1 ∈ wsX0_isSoIn := List.mem_of_getElem? (i := 4) rfl
theorem lkX0_isSoIn_13 : Cond.fieldLink RX0 13 (TX0 1).1 (TX0 1).2.1 (TX0 1).2.2.1 ∈ wsX0_isSoIn := List.mem_of_getElem? (i := 3) rfl
set_option maxHeartbeats 4000000 in
set_option maxRecDepth 100000 in
theorem kX0_isSoIn (l : Launch) (G : Gl) (r : Nat) (fw : Int32) (ft0 : Int32) (fg : Int32) (kw : Int32) (t : Nat) (ap : Nat) (ak : Nat) (ao : Nat) (M : Nat) (B : Nat) (P : Nat → Int32) (K : Nat → Int32) (U : Nat → Int32) (hM : M ≤ 5) (hB : B ≤ 4) (hwv : vp_in fw B) (htv : vp_in ft0 (20 + 1)) (hgv : vp_in fg M) (hu : vp_in (U (tn fw)) M) (hz : ∀ j, j < M → P (j * 5 + j) = nI 0) : Rd l G yX0_isSoIn wsX0_isSoIn ({ frames := 4, cells := 0, slots := 0, locals := 92 } : Room) [.ref r, .ref t] [(r, .inr (0, [.int fw, .int ft0, .int fg, .int kw])), (t, .inr (2, [.ref ap, .ref ak, .ref ao, .int (nI M), .int (nI B)])), (ap, aI G 25 P), (ak, aI G 4 K), (ao, aI G 4 U)] (some (.int (bI (isS (-1) P M K U (tn fw) (tn ft0) (tn fg) kw)))) := by
  refine Rd.ofZ (cc := cX0_isSoIn) (maxL := 2) (by decide) rfl (Nat.le_of_ble_eq_true rfl) ?_
  intro p e s m below meth c Q ls hE hP hK hl hret
  obtain ⟨hx, hb, hml, hown, hts⟩ := id hE
  have hl : lv_has ls 2 [(0, .ref r), (1, .ref t)] := hl
  have hw1 := tn_lt hwv (by omega)
  have ht1 := tn_lt htv (by omega)
  have hg1 := tn_lt hgv (by omega)
  have hwl := wh_lt (P := P) (tn_lt hu (by omega)) (tn ft0)
  refine lv_aload_n hx hb dX0_isSoIn_0 rfl (lv_at hl 0 rfl) ?_
  refine g_get (v := .int kw) hx hb hts ixX0_isSoIn_X0 hown hK hP 0 rfl rfl 3 (by decide) lkX0_isSoIn_19 rfl dX0_isSoIn_1 ?_
  refine lv_iconst (v := (-1)) hx hb dX0_isSoIn_4 (by decide) ?_
  refine lv_icmp_ne (tgt := 33) hx hb dX0_isSoIn_5 (by decide) (fun c1 => ?_) (fun c1 => ?_)
  ·
    refine lv_aload_n hx hb dX0_isSoIn_33 rfl (lv_at hl 1 rfl) ?_
    refine lv_aload_n hx hb dX0_isSoIn_34 rfl (lv_at hl 0 rfl) ?_
    refine g_get (v := .int fw) hx hb hts ixX0_isSoIn_X0 hown hK hP 0 rfl rfl 0 (by decide) lkX0_isSoIn_7 rfl dX0_isSoIn_35 ?_
    refine lv_tope (show fw = nI (tn fw) from tn_of hwv (by omega)) ?_
    refine lv_aload_n hx hb dX0_isSoIn_38 rfl (lv_at hl 0 rfl) ?_
    refine g_get (v := .int fg) hx hb hts ixX0_isSoIn_X0 hown hK hP 0 rfl rfl 2 (by decide) lkX0_isSoIn_16 rfl dX0_isSoIn_39 ?_
    refine lv_tope (show fg = nI (tn fg) from tn_of hgv (by omega)) ?_
    refine lv_aload_n hx hb dX0_isSoIn_42 rfl (lv_at hl 0 rfl) ?_
    refine g_get (v := .int ft0) hx hb hts ixX0_isSoIn_X0 hown hK hP 0 rfl rfl 1 (by decide) lkX0_isSoIn_13 rfl dX0_isSoIn_43 ?_
    refine lv_tope (show ft0 = nI (tn ft0) from tn_of htv (by omega)) ?_
    refine rdV (As := [.int (nI (tn fw)), .int (nI (tn fg)), .int (nI (tn ft0))]) (rest := []) (ci := 2) (q0 := 1) hE (kX2_knownBehind l G t ap ak ao M B P K U (tn fw) (tn fg) (tn ft0) hM (by first | omega | assumption) hu (by first | omega | assumption) (by first | omega | assumption) hz) (cwV 3 hts gX0_isSoIn_X2_knownBehind rfl rfl rfl (by decide +kernel) ⟨Nat.le_of_ble_eq_true rfl, Nat.le_of_ble_eq_true rfl⟩) hP hK [1, 2, 3, 4] rfl rfl rfl rfl hl.1 rfl (Nat.le_of_ble_eq_true rfl) dX0_isSoIn_46 ⟨Nat.zero_le _, Nat.zero_le _⟩ ?_
    refine W.eq (g2 := F0 m 49 ls [.int (kn P M (tn fg) (lrn (K (tn fw))) (tn (U (tn fw))) (tn ft0))]) rfl ?_
    refine lv_aload_n hx hb dX0_isSoIn_49 rfl (lv_at hl 0 rfl) ?_
    refine g_get (v := .int kw) hx hb hts ixX0_isSoIn_X0 hown hK hP 0 rfl rfl 3 (by decide) lkX0_isSoIn_19 rfl dX0_isSoIn_50 ?_
    refine lv_icmp_ne (tgt := 60) hx hb dX0_isSoIn_53 (by decide) (fun c2 => ?_) (fun c2 => ?_)
    ·
      refine lv_iconst (v := nI 0) hx hb dX0_isSoIn_60 (by decide) ?_
      exact hret _ _ _ ((bI_f (fun h => h.elim (fun q => by first | exact c1 q.1 | exact c2 q.2) (fun q => by first | exact q.1 c1 | exact c2 q.2))).symm) dX0_isSoIn_61
    ·
      refine lv_iconst (v := nI 1) hx hb dX0_isSoIn_56 (by decide) ?_
      refine lv_goto (tgt := 61) hx hb dX0_isSoIn_57 (by decide) ?_
      exact hret _ _ _ ((bI_t (Or.inr ⟨c1, c2⟩)).symm) dX0_isSoIn_61
  ·
    refine lv_aload_n hx hb dX0_isSoIn_8 rfl (lv_at hl 1 rfl) ?_
    refine lv_aload_n hx hb dX0_isSoIn_9 rfl (lv_at hl 0 rfl) ?_
    refine g_get (v := .int fw) hx hb hts ixX0_isSoIn_X0 hown hK hP 0 rfl rfl 0 (by decide) lkX0_isSoIn_7 rfl dX0_isSoIn_10 ?_
    refine lv_tope (show fw = nI (tn fw) from tn_of hwv (by omega)) ?_
    refine lv_aload_n hx hb dX0_isSoIn_13 rfl (lv_at hl 0 rfl) ?_
    refine g_get (v := .int ft0) hx hb hts ixX0_isSoIn_X0 hown hK hP 0 rfl rfl 1 (by decide) lkX0_isSoIn_13 rfl dX0_isSoIn_14 ?_
    refine lv_tope (show ft0 = nI (tn ft0) from tn_of htv (by omega)) ?_
    refine rdV (As := [.int (nI (tn fw)), .int (nI (tn ft0))]) (rest := []) (ci := 2) (q0 := 1) hE (kX2_masterBehind l G t ap ak ao M B P U (tn fw) (tn ft0) hM (by first | omega | assumption) hu (by first | omega | assumption) hz) (cwV 2 hts gX0_isSoIn_X2_masterBehind rfl rfl rfl (by decide +kernel) ⟨Nat.le_of_ble_eq_true rfl, Nat.le_of_ble_eq_true rfl⟩) hP hK [1, 2, 4] rfl rfl rfl rfl hl.1 rfl (Nat.le_of_ble_eq_true rfl) dX0_isSoIn_17 ⟨Nat.zero_le _, Nat.zero_le _⟩ ?_
    refine W.eq (g2 := F0 m 20 ls [.int (nI (wh P M (tn (U (tn fw))) (tn ft0)))]) rfl ?_
    refine lv_aload_n hx hb dX0_isSoIn_20 rfl (lv_at hl 0 rfl) ?_
    refine g_get (v := .int fg) hx hb hts ixX0_isSoIn_X0 hown hK hP 0 rfl rfl 2 (by decide) lkX0_isSoIn_16 rfl dX0_isSoIn_21 ?_
    refine lv_tope (show fg = nI (tn fg) from tn_of hgv (by omega)) ?_
    refine ic_ne (tgt := 31) hx hb (by omega) (by omega) dX0_isSoIn_24 (by decide) (fun c3 => ?_) (fun c3 => ?_)
    ·
      refine lv_iconst (v := nI 0) hx hb dX0_isSoIn_31 (by decide) ?_
      exact hret _ _ _ ((bI_f (fun h => h.elim (fun q => by first | exact c1 q.1 | exact c3 q.2) (fun q => by first | exact q.1 c1 | exact c3 q.2))).symm) dX0_isSoIn_32
    ·
      refine lv_iconst (v := nI 1) hx hb dX0_isSoIn_27 (by decide) ?_
      refine lv_goto (tgt := 32) hx hb dX0_isSoIn_28 (by decide) ?_
      exact hret _ _ _ ((bI_t (Or.inl ⟨c1, c3⟩)).symm) dX0_isSoIn_32

theorem ixX1_hasNothing_X1 : ∀ w ∈ wsX10, w ∈ wsX1_hasNothing := fun _ h => List.mem_cons_of_mem _ (List.mem_append_right _ h)
theorem lkX1_hasNothing_15 : Cond.fieldLink RX1 15 (TX1 1).1 (TX1 1).2.1 (TX1 1).2.2.1 ∈ wsX1_hasNothing := List.mem_of_getElem? (i := 1) rfl
set_option maxHeartbeats 4000000 in
set_option maxRecDepth 100000 in
theorem kX1_hasNothing (l : Launch) (G : Gl) (sh : Nat) (sc : Nat) (ln : Int32) (L : Nat) : Rd l G yX1_hasNothing wsX1_hasNothing ({ frames := 0, cells := 0, slots := 0, locals := 0 } : Room) [.ref sh] [(sh, .inr (1, [.ref sc, .int ln, .int (nI L)]))] (some (.int (bI (ln = (-1))))) := by
  refine Rd.ofZ (cc := cX1_hasNothing) (maxL := 1) (by decide) rfl (Nat.le_of_ble_eq_true rfl) ?_
  intro p e s m below meth c Q ls hE hP hK hl hret
  obtain ⟨hx, hb, hml, hown, hts⟩ := id hE
  have hl : lv_has ls 1 [(0, .ref sh)] := hl
  refine lv_aload_n hx hb dX1_hasNothing_0 rfl (lv_at hl 0 rfl) ?_
  refine g_get (v := .int ln) hx hb hts ixX1_hasNothing_X1 hown hK hP 0 rfl rfl 1 (by decide) lkX1_hasNothing_15 rfl dX1_hasNothing_1 ?_
  refine lv_iconst (v := (-1)) hx hb dX1_hasNothing_4 (by decide) ?_
  refine lv_icmp_ne (tgt := 12) hx hb dX1_hasNothing_5 (by decide) (fun c1 => ?_) (fun c1 => ?_)
  ·
    refine lv_iconst (v := nI 0) hx hb dX1_hasNothing_12 (by decide) ?_
    exact hret _ _ _ ((bI_f (by first | assumption | (simp only [iF_f c1]; try omega) | omega)).symm) dX1_hasNothing_13
  ·
    refine lv_iconst (v := nI 1) hx hb dX1_hasNothing_8 (by decide) ?_
    refine lv_goto (tgt := 13) hx hb dX1_hasNothing_9 (by decide) ?_
    exact hret _ _ _ ((bI_t (by first | assumption | (simp only [iF_t c1]; try omega) | omega)).symm) dX1_hasNothing_13

theorem ixX1_renew_X1 : ∀ w ∈ wsX10, w ∈ wsX1_renew := fun _ h => List.mem_cons_of_mem _ (List.mem_append_right _ h)
theorem lkX1_renew_15 : Cond.fieldLink RX1 15 (TX1 1).1 (TX1 1).2.1 (TX1 1).2.2.1 ∈ wsX1_renew := List.mem_of_getElem? (i := 1) rfl
theorem lkX1_renew_19 : Cond.fieldLink RX1 19 (TX1 2).1 (TX1 2).2.1 (TX1 2).2.2.1 ∈ wsX1_renew := List.mem_of_getElem? (i := 2) rfl
theorem lkX1_renew_9 : Cond.fieldLink RX1 9 (TX1 0).1 (TX1 0).2.1 (TX1 0).2.2.1 ∈ wsX1_renew := List.mem_of_getElem? (i := 3) rfl
set_option maxHeartbeats 4000000 in
set_option maxRecDepth 100000 in
theorem kX1_renew (l : Launch) (G : Gl) (sh : Nat) (sc : Nat) (ln : Int32) (le : Int32) (F : Nat → Int32) (a : Int32) (b : Int32) : Wt l G yX1_renew wsX1_renew ({ frames := 0, cells := 0, slots := 0, locals := 0 } : Room) [.ref sh, .int a, .int b] [(sh, .inr (1, [.ref sc, .int ln, .int le])), (sc, aI G 60 F)] [(sh, .inr (1, [.ref sc, .int a, .int b])), (sc, aI G 60 (zr F 60))] none := by
  refine Wt.ofV (cc := cX1_renew) (maxL := 4) (by decide) rfl (Nat.le_of_ble_eq_true rfl) ?_
  intro p e s m below meth c Q A ls hE hin hP hK hD hS hl hret
  obtain ⟨hx, hb, hml, hown, hts⟩ := id hE
  have hl : lv_has ls 4 [(0, .ref sh), (1, .int a), (2, .int b)] := hl
  refine lv_aload_n hx hb dX1_renew_0 rfl (lv_at hl 0 rfl) ?_
  refine lv_iload_n hx hb dX1_renew_1 rfl (lv_at hl 1 rfl) ?_
  refine g_put (v := a) hx hb hts ixX1_renew_X1 tyX1 tyX1_ok nmX1 hown hK hP hD hS 0 rfl rfl 1 (by decide) lkX1_renew_15 rfl rfl (Nat.le_of_ble_eq_true rfl) dX1_renew_2 (fun H locs hP hD hS => ?_)
  have hP : va_P G.1 vwCl [(sh, .inr (1, [.ref sc, .int a, .int le])), (sc, aI G 60 F)] H := hP
  have hD : va_D A [(sh, .inr (1, [.ref sc, .int a, .int le])), (sc, aI G 60 F)] := hD
  refine lv_aload_n hx hb dX1_renew_5 rfl (lv_at hl 0 rfl) ?_
  refine lv_iload_n hx hb dX1_renew_6 rfl (lv_at hl 2 rfl) ?_
  refine g_put (v := b) hx hb hts ixX1_renew_X1 tyX1 tyX1_ok nmX1 hown hK hP hD hS 0 rfl rfl 2 (by decide) lkX1_renew_19 rfl rfl (Nat.le_of_ble_eq_true rfl) dX1_renew_7 (fun H locs hP hD hS => ?_)
  have hP : va_P G.1 vwCl [(sh, .inr (1, [.ref sc, .int a, .int b])), (sc, aI G 60 F)] H := hP
  have hD : va_D A [(sh, .inr (1, [.ref sc, .int a, .int b])), (sc, aI G 60 F)] := hD
  refine lv_iconst (v := nI 0) hx hb dX1_renew_10 (by decide) ?_
  refine lv_istore_n (lv' := [(3, .int (nI 0)), (0, .ref sh), (1, .int a), (2, .int b)]) hx hb dX1_renew_11 rfl hl (by decide) rfl (fun ls hl => ?_)
  have loop1 : ∀ (d k : Nat) (H : Heap) (locs : List Loc) (ls : Array Slot), 60 < k + d → k ≤ 60 → va_P G.1 vwCl [(sh, .inr (1, [.ref sc, .int a, .int b])), (sc, aI G 60 (zr F k))] H → va_D A [(sh, .inr (1, [.ref sc, .int a, .int b])), (sc, aI G 60 (zr F k))] → va_S A s.heap H locs → lv_has ls 4 [(3, .int (nI k)), (0, .ref sh), (1, .int a), (2, .int b)] → W p l e ({ frames := 0, cells := 0, slots := 0, locals := 0 } : Room) s m ([.ref sh, .int a, .int b] : List Value).toArray below meth c H locs 0 0 Q (F0 m 12 ls []) := by
    intro d
    induction d with
    | zero =>
      intro k H locs ls h1 h2
      omega
    | succ d ih1 =>
      intro k H locs ls hdk hbk hP hD hS hl
      refine lv_iload_n hx hb dX1_renew_12 rfl (lv_at hl 0 rfl) ?_
      refine lv_bipush (v := nI 60) hx hb dX1_renew_13 (by decide) ?_
      refine ic_ge (tgt := 31) hx hb (by omega) (by omega) dX1_renew_15 (by decide) (fun c1 => ?_) (fun c1 => ?_)
      ·
        obtain rfl : 60 = k := by omega
        exact hret _ _ _ _ (hP) hS dX1_renew_31
      ·
        refine lv_aload_n hx hb dX1_renew_18 rfl (lv_at hl 1 rfl) ?_
        refine g_get (v := .ref sc) hx hb hts ixX1_renew_X1 hown hK hP 0 rfl rfl 0 (by decide) lkX1_renew_9 rfl dX1_renew_19 ?_
        refine lv_iload_n hx hb dX1_renew_22 rfl (lv_at hl 0 rfl) ?_
        refine lv_iconst (v := nI 0) hx hb dX1_renew_23 (by decide) ?_
        refine n_ast hx hb hK hP hD hS 1 rfl (k := k) (by omega) (by decide) dX1_renew_24 (fun H locs hP hD hS => ?_)
        have hP : va_P G.1 vwCl [(sh, .inr (1, [.ref sc, .int a, .int b])), (sc, aI G 60 (upd (zr F k) k (nI 0)))] H := hP
        have hD : va_D A [(sh, .inr (1, [.ref sc, .int a, .int b])), (sc, aI G 60 (upd (zr F k) k (nI 0)))] := hD
        refine lv_iinc (v := nI (k + 1)) (lv' := [(3, .int (nI (k + 1))), (0, .ref sh), (1, .int a), (2, .int b)]) hx hb dX1_renew_25 hl (k := 0) rfl (show nI k + Int32.ofInt 1 = nI (k + 1) from nI_add _ 1) (by decide) rfl (fun ls hl => ?_)
        refine lv_goto (tgt := 12) hx hb dX1_renew_28 (by decide) ?_
        have hP2 : va_P G.1 vwCl [(sh, .inr (1, [.ref sc, .int a, .int b])), (sc, aI G 60 (zr F (k + 1)))] H := by
          rw [show (zr F (k + 1)) = (upd (zr F k) k (nI 0)) from by first | rfl | simp only [zr, iF_t c1]]
          exact hP
        have hD2 : va_D A [(sh, .inr (1, [.ref sc, .int a, .int b])), (sc, aI G 60 (zr F (k + 1)))] := by
          rw [show (zr F (k + 1)) = (upd (zr F k) k (nI 0)) from by first | rfl | simp only [zr, iF_t c1]]
          exact hD
        exact ih1 (k + 1) H locs ls (by omega) (by omega) hP2 hD2 hS (lv_sub hl [0, 1, 2, 3] rfl)
  have hP3 : va_P G.1 vwCl [(sh, .inr (1, [.ref sc, .int a, .int b])), (sc, aI G 60 (zr F 0))] H := by
    rw [show (zr F 0) = (F) from by first | rfl | simp only [zr]]
    exact hP
  have hD3 : va_D A [(sh, .inr (1, [.ref sc, .int a, .int b])), (sc, aI G 60 (zr F 0))] := by
    rw [show (zr F 0) = (F) from by first | rfl | simp only [zr]]
    exact hD
  exact loop1 (60 + 1) 0 H locs ls (by omega) (by omega) hP3 hD3 hS (lv_sub hl [0, 1, 2, 3] rfl)

theorem ixX1_hasCells_X1 : ∀ w ∈ wsX10, w ∈ wsX1_hasCells := fun _ h => List.mem_cons_of_mem _ (List.mem_append_right _ h)
theorem lkX1_hasCells_19 : Cond.fieldLink RX1 19 (TX1 2).1 (TX1 2).2.1 (TX1 2).2.2.1 ∈ wsX1_hasCells := List.mem_of_getElem? (i := 1) rfl
set_option maxHeartbeats 4000000 in
set_option maxRecDepth 100000 in
theorem kX1_hasCells (l : Launch) (G : Gl) (sh : Nat) (sc : Nat) (ln : Int32) (L : Nat) (i : Int32) (n : Int32) : Rd l G yX1_hasCells wsX1_hasCells ({ frames := 0, cells := 0, slots := 0, locals := 0 } : Room) [.ref sh, .int i, .int n] [(sh, .inr (1, [.ref sc, .int ln, .int (nI L)]))] (some (.int (bI (hc L i n)))) := by
  refine Rd.ofZ (cc := cX1_hasCells) (maxL := 3) (by decide) rfl (Nat.le_of_ble_eq_true rfl) ?_
  intro p e s m below meth c Q ls hE hP hK hl hret
  obtain ⟨hx, hb, hml, hown, hts⟩ := id hE
  have hl : lv_has ls 3 [(0, .ref sh), (1, .int i), (2, .int n)] := hl
  refine lv_iload_n hx hb dX1_hasCells_0 rfl (lv_at hl 1 rfl) ?_
  refine lv_if_lt (tgt := 30) hx hb dX1_hasCells_1 (by decide) (fun c1 => ?_) (fun c1 => ?_)
  ·
    refine lv_iconst (v := nI 0) hx hb dX1_hasCells_30 (by decide) ?_
    exact hret _ _ _ ((bI_f (fun h => by obtain ⟨h0, h1, h2, h3⟩ := h; contradiction)).symm) dX1_hasCells_31
  ·
    refine lv_iload_n hx hb dX1_hasCells_4 rfl (lv_at hl 1 rfl) ?_
    refine lv_aload_n hx hb dX1_hasCells_5 rfl (lv_at hl 0 rfl) ?_
    refine g_get (v := .int (nI L)) hx hb hts ixX1_hasCells_X1 hown hK hP 0 rfl rfl 2 (by decide) lkX1_hasCells_19 rfl dX1_hasCells_6 ?_
    refine lv_icmp_gt (tgt := 30) hx hb dX1_hasCells_9 (by decide) (fun c2 => ?_) (fun c2 => ?_)
    ·
      refine lv_iconst (v := nI 0) hx hb dX1_hasCells_30 (by decide) ?_
      exact hret _ _ _ ((bI_f (fun h => by obtain ⟨h0, h1, h2, h3⟩ := h; contradiction)).symm) dX1_hasCells_31
    ·
      refine lv_iload_n hx hb dX1_hasCells_12 rfl (lv_at hl 2 rfl) ?_
      refine lv_if_lt (tgt := 30) hx hb dX1_hasCells_13 (by decide) (fun c3 => ?_) (fun c3 => ?_)
      ·
        refine lv_iconst (v := nI 0) hx hb dX1_hasCells_30 (by decide) ?_
        exact hret _ _ _ ((bI_f (fun h => by obtain ⟨h0, h1, h2, h3⟩ := h; contradiction)).symm) dX1_hasCells_31
      ·
        refine lv_iload_n hx hb dX1_hasCells_16 rfl (lv_at hl 2 rfl) ?_
        refine lv_aload_n hx hb dX1_hasCells_17 rfl (lv_at hl 0 rfl) ?_
        refine g_get (v := .int (nI L)) hx hb hts ixX1_hasCells_X1 hown hK hP 0 rfl rfl 2 (by decide) lkX1_hasCells_19 rfl dX1_hasCells_18 ?_
        refine lv_iload_n hx hb dX1_hasCells_21 rfl (lv_at hl 1 rfl) ?_
        refine lv_isub hx hb dX1_hasCells_22 ?_
        refine lv_icmp_gt (tgt := 30) hx hb dX1_hasCells_23 (by decide) (fun c4 => ?_) (fun c4 => ?_)
        ·
          refine lv_iconst (v := nI 0) hx hb dX1_hasCells_30 (by decide) ?_
          exact hret _ _ _ ((bI_f (fun h => by obtain ⟨h0, h1, h2, h3⟩ := h; contradiction)).symm) dX1_hasCells_31
        ·
          refine lv_iconst (v := nI 1) hx hb dX1_hasCells_26 (by decide) ?_
          refine lv_goto (tgt := 31) hx hb dX1_hasCells_27 (by decide) ?_
          exact hret _ _ _ ((bI_t ⟨c1, c2, c3, c4⟩).symm) dX1_hasCells_31

theorem ixX1_cut_X1 : ∀ w ∈ wsX10, w ∈ wsX1_cut := fun _ h => List.mem_cons_of_mem _ (List.mem_append_right _ h)
theorem lkX1_cut_15 : Cond.fieldLink RX1 15 (TX1 1).1 (TX1 1).2.1 (TX1 1).2.2.1 ∈ wsX1_cut := List.mem_of_getElem? (i := 1) rfl
set_option maxHeartbeats 4000000 in
set_option maxRecDepth 100000 in
theorem kX1_cut (l : Launch) (G : Gl) (sh : Nat) (sc : Nat) (ln : Int32) (L : Nat) (v : Int32) : Rd l G yX1_cut wsX1_cut ({ frames := 0, cells := 0, slots := 0, locals := 0 } : Room) [.ref sh, .int v] [(sh, .inr (1, [.ref sc, .int ln, .int (nI L)]))] (some (.int (ctl ln v))) := by
  refine Rd.ofI (cc := cX1_cut) (maxL := 2) (by decide) rfl (Nat.le_of_ble_eq_true rfl) ?_
  intro p e s m below meth c Q ls hE hP hK hl hret
  obtain ⟨hx, hb, hml, hown, hts⟩ := id hE
  have hl : lv_has ls 2 [(0, .ref sh), (1, .int v)] := hl
  refine lv_aload_n hx hb dX1_cut_0 rfl (lv_at hl 0 rfl) ?_
  refine g_get (v := .int ln) hx hb hts ixX1_cut_X1 hown hK hP 0 rfl rfl 1 (by decide) lkX1_cut_15 rfl dX1_cut_1 ?_
  by_cases c1 : ln = 0
  ·
    refine lv_lookup (tgt := 32) (off := 28) hx hb dX1_cut_4 (by decide) (by rw [c1]; decide) (by decide) ?_
    refine lv_iload_n hx hb dX1_cut_32 rfl (lv_at hl 1 rfl) ?_
    refine lv_i2b (v := v.toInt8.toInt32) hx hb dX1_cut_33 rfl ?_
    exact hret _ _ _ (by first | with_reducible rfl | (simp only [ctl, iF_t c1]; done) | contradiction) dX1_cut_34
  ·
    by_cases c2 : ln = 1
    ·
      refine lv_lookup (tgt := 35) (off := 31) hx hb dX1_cut_4 (by decide) (by rw [c2]; decide) (by decide) ?_
      refine lv_iload_n hx hb dX1_cut_35 rfl (lv_at hl 1 rfl) ?_
      refine lv_i2s (v := v.toInt16.toInt32) hx hb dX1_cut_36 rfl ?_
      exact hret _ _ _ (by first | with_reducible rfl | (simp only [ctl, iF_f c1, iF_t c2]; done) | contradiction) dX1_cut_37
    ·
      refine lv_lookup (tgt := 38) (off := 34) hx hb dX1_cut_4 (by decide) (by rw [lv_osw (k := 0) c1 (by decide), lv_osw (k := 1) c2 (by decide)]; rfl) (by decide) ?_
      refine lv_iload_n hx hb dX1_cut_38 rfl (lv_at hl 1 rfl) ?_
      exact hret _ _ _ (by first | with_reducible rfl | (simp only [ctl, iF_f c1, iF_f c2]; done) | contradiction) dX1_cut_39

theorem ixX1_faultOfTaking_X1 : ∀ w ∈ wsX10, w ∈ wsX1_faultOfTaking := fun _ h => List.mem_cons_of_mem _ (List.mem_append_right _ h)
theorem lkX1_faultOfTaking_15 : Cond.fieldLink RX1 15 (TX1 1).1 (TX1 1).2.1 (TX1 1).2.2.1 ∈ wsX1_faultOfTaking := List.mem_of_getElem? (i := 1) rfl
set_option maxHeartbeats 4000000 in
set_option maxRecDepth 100000 in
theorem kX1_faultOfTaking (l : Launch) (G : Gl) (sh : Nat) (sc : Nat) (ln : Int32) (L : Nat) (q : Int32) (i : Int32) (n : Int32) : Rd l G yX1_faultOfTaking wsX1_faultOfTaking ({ frames := 1, cells := 0, slots := 0, locals := 22 } : Room) [.ref sh, .int q, .int i, .int n] [(sh, .inr (1, [.ref sc, .int ln, .int (nI L)]))] (some (.int (ft (-1) ln L q i n))) := by
  refine Rd.ofI (cc := cX1_faultOfTaking) (maxL := 4) (by decide) rfl (Nat.le_of_ble_eq_true rfl) ?_
  intro p e s m below meth c Q ls hE hP hK hl hret
  obtain ⟨hx, hb, hml, hown, hts⟩ := id hE
  have hl : lv_has ls 4 [(0, .ref sh), (1, .int q), (2, .int i), (3, .int n)] := hl
  refine lv_aload_n hx hb dX1_faultOfTaking_0 rfl (lv_at hl 0 rfl) ?_
  refine rdV (As := []) (rest := []) (ci := 1) (q0 := 0) hE (kX1_hasNothing l G sh sc ln L ) (cwV 0 hts gX1_faultOfTaking_X1_hasNothing rfl rfl rfl (by decide +kernel) ⟨Nat.le_of_ble_eq_true rfl, Nat.le_of_ble_eq_true rfl⟩) hP hK [0] rfl rfl rfl rfl hl.1 rfl (Nat.le_of_ble_eq_true rfl) dX1_faultOfTaking_1 ⟨Nat.zero_le _, Nat.zero_le _⟩ ?_
  refine W.eq (g2 := F0 m 4 ls [.int (bI (ln = (-1)))]) rfl ?_
  refine bz_eq (tgt := 9) hx hb dX1_faultOfTaking_4 (by decide) (fun c1 => ?_) (fun c1 => ?_)
  ·
    refine lv_aload_n hx hb dX1_faultOfTaking_9 rfl (lv_at hl 0 rfl) ?_
    refine g_get (v := .int ln) hx hb hts ixX1_faultOfTaking_X1 hown hK hP 0 rfl rfl 1 (by decide) lkX1_faultOfTaking_15 rfl dX1_faultOfTaking_10 ?_
    refine lv_iload_n hx hb dX1_faultOfTaking_13 rfl (lv_at hl 1 rfl) ?_
    refine lv_icmp_eq (tgt := 19) hx hb dX1_faultOfTaking_14 (by decide) (fun c2 => ?_) (fun c2 => ?_)
    ·
      refine lv_iload_n hx hb dX1_faultOfTaking_19 rfl (lv_at hl 3 rfl) ?_
      refine lv_if_ge (tgt := 25) hx hb dX1_faultOfTaking_20 (by decide) (fun c3 => ?_) (fun c3 => ?_)
      ·
        refine lv_aload_n hx hb dX1_faultOfTaking_25 rfl (lv_at hl 0 rfl) ?_
        refine lv_iload_n hx hb dX1_faultOfTaking_26 rfl (lv_at hl 2 rfl) ?_
        refine lv_iload_n hx hb dX1_faultOfTaking_27 rfl (lv_at hl 3 rfl) ?_
        refine rdV (As := [.int i, .int n]) (rest := []) (ci := 1) (q0 := 0) hE (kX1_hasCells l G sh sc ln L i n ) (cwV 2 hts gX1_faultOfTaking_X1_hasCells rfl rfl rfl (by decide +kernel) ⟨Nat.le_of_ble_eq_true rfl, Nat.le_of_ble_eq_true rfl⟩) hP hK [0] rfl rfl rfl rfl hl.1 rfl (Nat.le_of_ble_eq_true rfl) dX1_faultOfTaking_28 ⟨Nat.zero_le _, Nat.zero_le _⟩ ?_
        refine W.eq (g2 := F0 m 31 ls [.int (bI (hc L i n))]) rfl ?_
        refine bz_eq (tgt := 38) hx hb dX1_faultOfTaking_31 (by decide) (fun c4 => ?_) (fun c4 => ?_)
        ·
          refine lv_iconst (v := nI 3) hx hb dX1_faultOfTaking_38 (by decide) ?_
          exact hret _ _ _ (by first | with_reducible rfl | (simp only [ft, iF_f c1, iF_t c2, iF_t c3, iF_f (i32_le c3), iF_f c4]; done) | contradiction) dX1_faultOfTaking_39
        ·
          refine lv_iconst (v := nI 0) hx hb dX1_faultOfTaking_34 (by decide) ?_
          refine lv_goto (tgt := 39) hx hb dX1_faultOfTaking_35 (by decide) ?_
          exact hret _ _ _ (by first | with_reducible rfl | (simp only [ft, iF_f c1, iF_t c2, iF_t c3, iF_f (i32_le c3), iF_t c4]; done) | contradiction) dX1_faultOfTaking_39
      ·
        refine lv_iconst (v := nI 4) hx hb dX1_faultOfTaking_23 (by decide) ?_
        exact hret _ _ _ (by first | with_reducible rfl | (simp only [ft, iF_f c1, iF_t c2, iF_f c3, iF_t (i32_nle c3)]; done) | contradiction) dX1_faultOfTaking_24
    ·
      refine lv_iconst (v := nI 2) hx hb dX1_faultOfTaking_17 (by decide) ?_
      exact hret _ _ _ (by first | with_reducible rfl | (simp only [ft, iF_f c1, iF_f c2]; done) | contradiction) dX1_faultOfTaking_18
  ·
    refine lv_iconst (v := nI 1) hx hb dX1_faultOfTaking_7 (by decide) ?_
    exact hret _ _ _ (by first | with_reducible rfl | (simp only [ft, iF_t c1]; done) | contradiction) dX1_faultOfTaking_8

set_option maxHeartbeats 4000000 in
set_option maxRecDepth 100000 in
theorem kX4_isWithin (l : Launch) (G : Gl) (q : Int32) (n : Nat) (hn : n < 2 ^ 30) : Rd l G yX4_isWithin wsX4_isWithin ({ frames := 0, cells := 0, slots := 0, locals := 0 } : Room) [.int q, .int (nI n)] [] (some (.int (bI (vp_in q (n + 1))))) := by
  refine Rd.ofZ (cc := cX4_isWithin) (maxL := 2) (by decide) rfl (Nat.le_of_ble_eq_true rfl) ?_
  intro p e s m below meth c Q ls hE hP hK hl hret
  obtain ⟨hx, hb, hml, hown, hts⟩ := id hE
  have hl : lv_has ls 2 [(0, .int q), (1, .int (nI n))] := hl
  refine lv_iload_n hx hb dX4_isWithin_0 rfl (lv_at hl 0 rfl) ?_
  refine lv_if_lt (tgt := 13) hx hb dX4_isWithin_1 (by decide) (fun c1 => ?_) (fun c1 => ?_)
  ·
    refine lv_iconst (v := nI 0) hx hb dX4_isWithin_13 (by decide) ?_
    exact hret _ _ _ ((bI_f (vin_f1 c1)).symm) dX4_isWithin_14
  ·
    refine lv_iload_n hx hb dX4_isWithin_4 rfl (lv_at hl 0 rfl) ?_
    refine lv_iload_n hx hb dX4_isWithin_5 rfl (lv_at hl 1 rfl) ?_
    refine lv_icmp_gt (tgt := 13) hx hb dX4_isWithin_6 (by decide) (fun c2 => ?_) (fun c2 => ?_)
    ·
      refine lv_iconst (v := nI 0) hx hb dX4_isWithin_13 (by decide) ?_
      exact hret _ _ _ ((bI_f (vin_f3 (i32_lt c2) (by omega))).symm) dX4_isWithin_14
    ·
      refine lv_iconst (v := nI 1) hx hb dX4_isWithin_9 (by decide) ?_
      refine lv_goto (tgt := 14) hx hb dX4_isWithin_10 (by decide) ?_
      exact hret _ _ _ ((bI_t (vin_t1 c1 (i32_nlt c2) (by omega))).symm) dX4_isWithin_14
