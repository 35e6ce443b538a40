theorem nkX4_119 : Cond.fieldLinkNest RX4 119 (TX2 3).1 (TX2 3).2.1 (TX2 3).2.2.1 "SolsticeBoys" ∈ nestW := by decide +kernel
theorem nkX4_76 : Cond.fieldLinkNest RX4 76 (TX2 4).1 (TX2 4).2.1 (TX2 4).2.2.1 "SolsticeBoys" ∈ nestW := by decide +kernel
theorem nkX4_82 : Cond.fieldLinkNest RX4 82 (TX2 1).1 (TX2 1).2.1 (TX2 1).2.2.1 "SolsticeBoys" ∈ nestW := by decide +kernel
theorem nkX4_86 : Cond.fieldLinkNest RX4 86 (TX2 2).1 (TX2 2).2.1 (TX2 2).2.2.1 "SolsticeBoys" ∈ nestW := by decide +kernel
theorem ixX0_note_X0 : ∀ w ∈ wsX00, w ∈ wsX0_note := fun _ h => List.mem_cons_of_mem _ (List.mem_append_right _ h)
theorem lkX0_note_7 : Cond.fieldLink RX0 7 (TX0 0).1 (TX0 0).2.1 (TX0 0).2.2.1 ∈ wsX0_note := List.mem_of_getElem? (i := 1) rfl
theorem lkX0_note_13 : Cond.fieldLink RX0 13 (TX0 1).1 (TX0 1).2.1 (TX0 1).2.2.1 ∈ wsX0_note := List.mem_of_getElem? (i := 2) rfl
theorem lkX0_note_16 : Cond.fieldLink RX0 16 (TX0 2).1 (TX0 2).2.1 (TX0 2).2.2.1 ∈ wsX0_note := List.mem_of_getElem? (i := 3) rfl
theorem lkX0_note_19 : Cond.fieldLink RX0 19 (TX0 3).1 (TX0 3).2.1 (TX0 3).2.2.1 ∈ wsX0_note := List.mem_of_getElem? (i := 4) rfl
set_option maxHeartbeats 4000000 in
set_option maxRecDepth 100000 in
theorem kX0_note (l : Launch) (G : Gl) (r : Nat) (f0 : Int32) (f1 : Int32) (f2 : Int32) (f3 : Int32) (a0 : Int32) (a1 : Int32) (a2 : Int32) (a3 : Int32) : Wt l G yX0_note wsX0_note ({ frames := 0, cells := 0, slots := 0, locals := 0 } : Room) [.ref r, .int a0, .int a1, .int a2, .int a3] [(r, .inr (0, [.int f0, .int f1, .int f2, .int f3]))] [(r, .inr (0, [.int a0, .int a1, .int a2, .int a3]))] none := by
  refine Wt.ofV (cc := cX0_note) (maxL := 5) (by decide) rfl (Nat.le_of_ble_eq_true rfl) ?_
  intro p e s m below meth c Q A ls hE hin hP hK hD hS hl hret
  obtain ⟨hx, hb, hml, hown, hts⟩ := id hE
  have hl : lv_has ls 5 [(0, .ref r), (1, .int a0), (2, .int a1), (3, .int a2), (4, .int a3)] := hl
  refine lv_aload_n hx hb dX0_note_0 rfl (lv_at hl 0 rfl) ?_
  refine lv_iload_n hx hb dX0_note_1 rfl (lv_at hl 1 rfl) ?_
  refine g_put (v := a0) hx hb hts ixX0_note_X0 tyX0 tyX0_ok nmX0 hown hK hP hD hS 0 rfl rfl 0 (by decide) lkX0_note_7 rfl rfl (by simp only [List.length_cons, List.length_nil]; omega) dX0_note_2 (fun H locs hP hD hS => ?_)
  have hP : va_P G.1 vwCl [(r, .inr (0, [.int a0, .int f1, .int f2, .int f3]))] H := hP
  have hD : va_D A [(r, .inr (0, [.int a0, .int f1, .int f2, .int f3]))] := hD
  refine lv_aload_n hx hb dX0_note_5 rfl (lv_at hl 0 rfl) ?_
  refine lv_iload_n hx hb dX0_note_6 rfl (lv_at hl 2 rfl) ?_
  refine g_put (v := a1) hx hb hts ixX0_note_X0 tyX0 tyX0_ok nmX0 hown hK hP hD hS 0 rfl rfl 1 (by decide) lkX0_note_13 rfl rfl (by simp only [List.length_cons, List.length_nil]; omega) dX0_note_7 (fun H locs hP hD hS => ?_)
  have hP : va_P G.1 vwCl [(r, .inr (0, [.int a0, .int a1, .int f2, .int f3]))] H := hP
  have hD : va_D A [(r, .inr (0, [.int a0, .int a1, .int f2, .int f3]))] := hD
  refine lv_aload_n hx hb dX0_note_10 rfl (lv_at hl 0 rfl) ?_
  refine lv_iload_n hx hb dX0_note_11 rfl (lv_at hl 3 rfl) ?_
  refine g_put (v := a2) hx hb hts ixX0_note_X0 tyX0 tyX0_ok nmX0 hown hK hP hD hS 0 rfl rfl 2 (by decide) lkX0_note_16 rfl rfl (by simp only [List.length_cons, List.length_nil]; omega) dX0_note_12 (fun H locs hP hD hS => ?_)
  have hP : va_P G.1 vwCl [(r, .inr (0, [.int a0, .int a1, .int a2, .int f3]))] H := hP
  have hD : va_D A [(r, .inr (0, [.int a0, .int a1, .int a2, .int f3]))] := hD
  refine lv_aload_n hx hb dX0_note_15 rfl (lv_at hl 0 rfl) ?_
  refine lv_iload hx hb dX0_note_16 (lv_at hl 4 rfl) ?_
  refine g_put (v := a3) hx hb hts ixX0_note_X0 tyX0 tyX0_ok nmX0 hown hK hP hD hS 0 rfl rfl 3 (by decide) lkX0_note_19 rfl rfl (by simp only [List.length_cons, List.length_nil]; omega) dX0_note_18 (fun H locs hP hD hS => ?_)
  have hP : va_P G.1 vwCl [(r, .inr (0, [.int a0, .int a1, .int a2, .int a3]))] H := hP
  have hD : va_D A [(r, .inr (0, [.int a0, .int a1, .int a2, .int a3]))] := hD
  exact hret _ _ _ _ (hP) hS dX0_note_21

theorem ixX0_init_X0 : ∀ w ∈ wsX00, w ∈ wsX0_init := fun _ h => List.mem_cons_of_mem _ (List.mem_append_right _ h)
theorem lkX0_init_7 : Cond.fieldLink RX0 7 (TX0 0).1 (TX0 0).2.1 (TX0 0).2.2.1 ∈ wsX0_init := List.mem_of_getElem? (i := 4) rfl
theorem lkX0_init_13 : Cond.fieldLink RX0 13 (TX0 1).1 (TX0 1).2.1 (TX0 1).2.2.1 ∈ wsX0_init := List.mem_of_getElem? (i := 5) rfl
theorem lkX0_init_16 : Cond.fieldLink RX0 16 (TX0 2).1 (TX0 2).2.1 (TX0 2).2.2.1 ∈ wsX0_init := List.mem_of_getElem? (i := 6) rfl
theorem lkX0_init_19 : Cond.fieldLink RX0 19 (TX0 3).1 (TX0 3).2.1 (TX0 3).2.2.1 ∈ wsX0_init := List.mem_of_getElem? (i := 7) rfl
set_option maxHeartbeats 4000000 in
set_option maxRecDepth 100000 in
theorem kX0_init (l : Launch) (G : Gl) (r : Nat) (f0 : Int32) (f1 : Int32) (f2 : Int32) (f3 : Int32) : Wt l G yX0_init wsX0_init ({ frames := 1, cells := 0, slots := 0, locals := 12 } : Room) [.ref r] [(r, .inr (0, [.int f0, .int f1, .int f2, .int f3]))] [(r, .inr (0, [.int (nI 0), .int (nI 0), .int (nI 0), .int (-1)]))] none := by
  refine Wt.ofV (cc := cX0_init) (maxL := 1) (by decide) rfl (Nat.le_of_ble_eq_true rfl) ?_
  intro p e s m below meth c Q A ls hE hin hP hK hD hS hl hret
  obtain ⟨hx, hb, hml, hown, hts⟩ := id hE
  have hl : lv_has ls 1 [(0, .ref r)] := hl
  refine lv_aload_n hx hb dX0_init_0 rfl (lv_at hl 0 rfl) ?_
  refine W.objInit hx hb hown (hts (.methodLink RX0 1 objectInit) (List.mem_of_getElem? (i := 1) rfl)) (hts (.instanceMethod objectInit) (List.mem_of_getElem? (i := 2) rfl)) (hts (.code objectInit ⟨#[0xb1]⟩ 1 none) (List.mem_of_getElem? (i := 3) rfl)) rfl (by rw [hml]; exact hl.1) rfl dX0_init_1 (Nat.le_of_ble_eq_true rfl) (Nat.le_of_ble_eq_true rfl) ?_
  refine W.eq (g2 := F0 m 4 ls []) rfl ?_
  refine lv_aload_n hx hb dX0_init_4 rfl (lv_at hl 0 rfl) ?_
  refine lv_iconst (v := nI 0) hx hb dX0_init_5 (by decide) ?_
  refine g_put (v := (nI 0)) hx hb hts ixX0_init_X0 tyX0 tyX0_ok nmX0 hown hK hP hD hS 0 rfl rfl 0 (by decide) lkX0_init_7 rfl rfl (by simp only [List.length_cons, List.length_nil]; omega) dX0_init_6 (fun H locs hP hD hS => ?_)
  have hP : va_P G.1 vwCl [(r, .inr (0, [.int (nI 0), .int f1, .int f2, .int f3]))] H := hP
  have hD : va_D A [(r, .inr (0, [.int (nI 0), .int f1, .int f2, .int f3]))] := hD
  refine lv_aload_n hx hb dX0_init_9 rfl (lv_at hl 0 rfl) ?_
  refine lv_iconst (v := nI 0) hx hb dX0_init_10 (by decide) ?_
  refine g_put (v := (nI 0)) hx hb hts ixX0_init_X0 tyX0 tyX0_ok nmX0 hown hK hP hD hS 0 rfl rfl 1 (by decide) lkX0_init_13 rfl rfl (by simp only [List.length_cons, List.length_nil]; omega) dX0_init_11 (fun H locs hP hD hS => ?_)
  have hP : va_P G.1 vwCl [(r, .inr (0, [.int (nI 0), .int (nI 0), .int f2, .int f3]))] H := hP
  have hD : va_D A [(r, .inr (0, [.int (nI 0), .int (nI 0), .int f2, .int f3]))] := hD
  refine lv_aload_n hx hb dX0_init_14 rfl (lv_at hl 0 rfl) ?_
  refine lv_iconst (v := nI 0) hx hb dX0_init_15 (by decide) ?_
  refine g_put (v := (nI 0)) hx hb hts ixX0_init_X0 tyX0 tyX0_ok nmX0 hown hK hP hD hS 0 rfl rfl 2 (by decide) lkX0_init_16 rfl rfl (by simp only [List.length_cons, List.length_nil]; omega) dX0_init_16 (fun H locs hP hD hS => ?_)
  have hP : va_P G.1 vwCl [(r, .inr (0, [.int (nI 0), .int (nI 0), .int (nI 0), .int f3]))] H := hP
  have hD : va_D A [(r, .inr (0, [.int (nI 0), .int (nI 0), .int (nI 0), .int f3]))] := hD
  refine lv_aload_n hx hb dX0_init_19 rfl (lv_at hl 0 rfl) ?_
  refine lv_iconst (v := (-1)) hx hb dX0_init_20 (by decide) ?_
  refine g_put (v := (-1)) hx hb hts ixX0_init_X0 tyX0 tyX0_ok nmX0 hown hK hP hD hS 0 rfl rfl 3 (by decide) lkX0_init_19 rfl rfl (by simp only [List.length_cons, List.length_nil]; omega) dX0_init_21 (fun H locs hP hD hS => ?_)
  have hP : va_P G.1 vwCl [(r, .inr (0, [.int (nI 0), .int (nI 0), .int (nI 0), .int (-1)]))] H := hP
  have hD : va_D A [(r, .inr (0, [.int (nI 0), .int (nI 0), .int (nI 0), .int (-1)]))] := hD
  exact hret _ _ _ _ (hP) hS dX0_init_24

theorem ixX0_isSoIn_X0 : ∀ w ∈ wsX00, w ∈ wsX0_isSoIn := fun _ h => List.mem_cons_of_mem _ (List.mem_append_left _ (List.mem_append_right _ h))
theorem lkX0_isSoIn_19 : Cond.fieldLink RX0 19 (TX0 3).1 (TX0 3).2.1 (TX0 3).2.2.1 ∈ wsX0_isSoIn := List.mem_of_getElem? (i := 1) rfl
theorem lkX0_isSoIn_7 : Cond.fieldLink RX0 7 (TX0 0).1 (TX0 0).2.1 (TX0 0).2.2.1 ∈ wsX0_isSoIn := List.mem_of_getElem? (i := 2) rfl
theorem lkX0_isSoIn_16 : Cond.fieldLink RX0 16 (TX0 2).1 (TX0 2).2.1 (TX0 2).2.2.1 ∈ wsX0_isSoIn := List.mem_of_getElem? (i := 4) rfl
theorem lkX0_isSoIn_13 : Cond.fieldLink RX0 13 (TX0 1).1 (TX0 1).2.1 (TX0 1).2.2.1 ∈ wsX0_isSoIn := List.mem_of_getElem? (i := 3) rfl
set_option maxHeartbeats 4000000 in
set_option maxRecDepth 100000 in
theorem kX0_isSoIn (l : Launch) (G : Gl) (r : Nat) (w : Nat) (t0 : Nat) (g : Nat) (kw : Int32) (t : Nat) (ap : Nat) (ak : Nat) (ao : Nat) (M : Nat) (B : Nat) (P : Nat → Int32) (K : Nat → Int32) (U : Nat → Int32) (hM : M ≤ 5) (hw : w < 4) (ht : t0 ≤ 20) (hg : g < M) (hu : vp_in (U w) M) (hz : ∀ j, j < M → P (j * 5 + j) = nI 0) : Rd l G yX0_isSoIn wsX0_isSoIn ({ frames := 4, cells := 0, slots := 0, locals := 92 } : Room) [.ref r, .ref t] [(r, .inr (0, [.int (nI w), .int (nI t0), .int (nI g), .int kw])), (t, .inr (2, [.ref ap, .ref ak, .ref ao, .int (nI M), .int (nI B)])), (ap, aI G 25 P), (ak, aI G 4 K), (ao, aI G 4 U)] (some (.int (bI (isS (-1) P M K U w t0 g kw)))) := by
  refine Rd.ofZ (cc := cX0_isSoIn) (maxL := 2) (by decide) rfl (Nat.le_of_ble_eq_true rfl) ?_
  intro p e s m below meth c Q ls hE hP hK hl hret
  obtain ⟨hx, hb, hml, hown, hts⟩ := id hE
  have hl : lv_has ls 2 [(0, .ref r), (1, .ref t)] := hl
  refine lv_aload_n hx hb dX0_isSoIn_0 rfl (lv_at hl 0 rfl) ?_
  refine g_get (v := .int kw) hx hb hts ixX0_isSoIn_X0 hown hK hP 0 rfl rfl 3 (by decide) lkX0_isSoIn_19 rfl dX0_isSoIn_1 ?_
  refine lv_iconst (v := (-1)) hx hb dX0_isSoIn_4 (by decide) ?_
  refine lv_icmp_ne (tgt := 33) hx hb dX0_isSoIn_5 (by decide) (fun c1 => ?_) (fun c1 => ?_)
  ·
    refine lv_aload_n hx hb dX0_isSoIn_33 rfl (lv_at hl 1 rfl) ?_
    refine lv_aload_n hx hb dX0_isSoIn_34 rfl (lv_at hl 0 rfl) ?_
    refine g_get (v := .int (nI w)) hx hb hts ixX0_isSoIn_X0 hown hK hP 0 rfl rfl 0 (by decide) lkX0_isSoIn_7 rfl dX0_isSoIn_35 ?_
    refine lv_aload_n hx hb dX0_isSoIn_38 rfl (lv_at hl 0 rfl) ?_
    refine g_get (v := .int (nI g)) hx hb hts ixX0_isSoIn_X0 hown hK hP 0 rfl rfl 2 (by decide) lkX0_isSoIn_16 rfl dX0_isSoIn_39 ?_
    refine lv_aload_n hx hb dX0_isSoIn_42 rfl (lv_at hl 0 rfl) ?_
    refine g_get (v := .int (nI t0)) hx hb hts ixX0_isSoIn_X0 hown hK hP 0 rfl rfl 1 (by decide) lkX0_isSoIn_13 rfl dX0_isSoIn_43 ?_
    refine rdV (As := [.int (nI w), .int (nI g), .int (nI t0)]) (rest := []) (ci := 2) (q0 := 1) hE (kX2_knownBehind l G t ap ak ao M B P K U w g t0 hM hw hu hg (by first | omega | assumption) hz) (cwV 3 hts gX0_isSoIn_X2_knownBehind rfl rfl rfl (by decide +kernel) ⟨Nat.le_of_ble_eq_true rfl, Nat.le_of_ble_eq_true rfl⟩) hP hK [1, 2, 3, 4] rfl rfl rfl rfl hl.1 rfl (Nat.le_of_ble_eq_true rfl) dX0_isSoIn_46 ⟨Nat.zero_le _, Nat.zero_le _⟩ ?_
    refine W.eq (g2 := F0 m 49 ls [.int (kn P M g (lrn (K w)) (tn (U w)) t0)]) rfl ?_
    refine lv_aload_n hx hb dX0_isSoIn_49 rfl (lv_at hl 0 rfl) ?_
    refine g_get (v := .int kw) hx hb hts ixX0_isSoIn_X0 hown hK hP 0 rfl rfl 3 (by decide) lkX0_isSoIn_19 rfl dX0_isSoIn_50 ?_
    refine lv_icmp_ne (tgt := 60) hx hb dX0_isSoIn_53 (by decide) (fun c2 => ?_) (fun c2 => ?_)
    ·
      refine lv_iconst (v := nI 0) hx hb dX0_isSoIn_60 (by decide) ?_
      exact hret _ _ _ ((bI_f (fun h => h.elim (fun q => by first | exact c1 q.1 | exact c2 q.2) (fun q => by first | exact q.1 c1 | exact c2 q.2))).symm) dX0_isSoIn_61
    ·
      refine lv_iconst (v := nI 1) hx hb dX0_isSoIn_56 (by decide) ?_
      refine lv_goto (tgt := 61) hx hb dX0_isSoIn_57 (by decide) ?_
      exact hret _ _ _ ((bI_t (Or.inr ⟨c1, c2⟩)).symm) dX0_isSoIn_61
  ·
    refine lv_aload_n hx hb dX0_isSoIn_8 rfl (lv_at hl 1 rfl) ?_
    refine lv_aload_n hx hb dX0_isSoIn_9 rfl (lv_at hl 0 rfl) ?_
    refine g_get (v := .int (nI w)) hx hb hts ixX0_isSoIn_X0 hown hK hP 0 rfl rfl 0 (by decide) lkX0_isSoIn_7 rfl dX0_isSoIn_10 ?_
    refine lv_aload_n hx hb dX0_isSoIn_13 rfl (lv_at hl 0 rfl) ?_
    refine g_get (v := .int (nI t0)) hx hb hts ixX0_isSoIn_X0 hown hK hP 0 rfl rfl 1 (by decide) lkX0_isSoIn_13 rfl dX0_isSoIn_14 ?_
    refine rdV (As := [.int (nI w), .int (nI t0)]) (rest := []) (ci := 2) (q0 := 1) hE (kX2_masterBehind l G t ap ak ao M B P U w t0 hM hw hu (by first | omega | assumption) hz) (cwV 2 hts gX0_isSoIn_X2_masterBehind rfl rfl rfl (by decide +kernel) ⟨Nat.le_of_ble_eq_true rfl, Nat.le_of_ble_eq_true rfl⟩) hP hK [1, 2, 4] rfl rfl rfl rfl hl.1 rfl (Nat.le_of_ble_eq_true rfl) dX0_isSoIn_17 ⟨Nat.zero_le _, Nat.zero_le _⟩ ?_
    refine W.eq (g2 := F0 m 20 ls [.int (nI (wh P M (tn (U w)) t0))]) rfl ?_
    have hwl := wh_lt (P := P) (tn_lt hu (by omega)) t0
    refine lv_aload_n hx hb dX0_isSoIn_20 rfl (lv_at hl 0 rfl) ?_
    refine g_get (v := .int (nI g)) hx hb hts ixX0_isSoIn_X0 hown hK hP 0 rfl rfl 2 (by decide) lkX0_isSoIn_16 rfl dX0_isSoIn_21 ?_
    refine ic_ne (tgt := 31) hx hb (by omega) (by omega) dX0_isSoIn_24 (by decide) (fun c3 => ?_) (fun c3 => ?_)
    ·
      refine lv_iconst (v := nI 0) hx hb dX0_isSoIn_31 (by decide) ?_
      exact hret _ _ _ ((bI_f (fun h => h.elim (fun q => by first | exact c1 q.1 | exact c3 q.2) (fun q => by first | exact q.1 c1 | exact c3 q.2))).symm) dX0_isSoIn_32
    ·
      refine lv_iconst (v := nI 1) hx hb dX0_isSoIn_27 (by decide) ?_
      refine lv_goto (tgt := 32) hx hb dX0_isSoIn_28 (by decide) ?_
      exact hret _ _ _ ((bI_t (Or.inl ⟨c1, c3⟩)).symm) dX0_isSoIn_32

theorem ixX1_hasNothing_X1 : ∀ w ∈ wsX10, w ∈ wsX1_hasNothing := fun _ h => List.mem_cons_of_mem _ (List.mem_append_right _ h)
theorem lkX1_hasNothing_15 : Cond.fieldLink RX1 15 (TX1 1).1 (TX1 1).2.1 (TX1 1).2.2.1 ∈ wsX1_hasNothing := List.mem_of_getElem? (i := 1) rfl
set_option maxHeartbeats 4000000 in
set_option maxRecDepth 100000 in
theorem kX1_hasNothing (l : Launch) (G : Gl) (sh : Nat) (sc : Nat) (ln : Int32) (L : Nat) : Rd l G yX1_hasNothing wsX1_hasNothing ({ frames := 0, cells := 0, slots := 0, locals := 0 } : Room) [.ref sh] [(sh, .inr (1, [.ref sc, .int ln, .int (nI L)]))] (some (.int (bI (ln = (-1))))) := by
  refine Rd.ofZ (cc := cX1_hasNothing) (maxL := 1) (by decide) rfl (Nat.le_of_ble_eq_true rfl) ?_
  intro p e s m below meth c Q ls hE hP hK hl hret
  obtain ⟨hx, hb, hml, hown, hts⟩ := id hE
  have hl : lv_has ls 1 [(0, .ref sh)] := hl
  refine lv_aload_n hx hb dX1_hasNothing_0 rfl (lv_at hl 0 rfl) ?_
  refine g_get (v := .int ln) hx hb hts ixX1_hasNothing_X1 hown hK hP 0 rfl rfl 1 (by decide) lkX1_hasNothing_15 rfl dX1_hasNothing_1 ?_
  refine lv_iconst (v := (-1)) hx hb dX1_hasNothing_4 (by decide) ?_
  refine lv_icmp_ne (tgt := 12) hx hb dX1_hasNothing_5 (by decide) (fun c1 => ?_) (fun c1 => ?_)
  ·
    refine lv_iconst (v := nI 0) hx hb dX1_hasNothing_12 (by decide) ?_
    exact hret _ _ _ ((bI_f (by first | assumption | (simp only [iF_f c1]; try omega) | omega)).symm) dX1_hasNothing_13
  ·
    refine lv_iconst (v := nI 1) hx hb dX1_hasNothing_8 (by decide) ?_
    refine lv_goto (tgt := 13) hx hb dX1_hasNothing_9 (by decide) ?_
    exact hret _ _ _ ((bI_t (by first | assumption | (simp only [iF_t c1]; try omega) | omega)).symm) dX1_hasNothing_13

theorem ixX1_renew_X1 : ∀ w ∈ wsX10, w ∈ wsX1_renew := fun _ h => List.mem_cons_of_mem _ (List.mem_append_right _ h)
theorem lkX1_renew_15 : Cond.fieldLink RX1 15 (TX1 1).1 (TX1 1).2.1 (TX1 1).2.2.1 ∈ wsX1_renew := List.mem_of_getElem? (i := 1) rfl
theorem lkX1_renew_19 : Cond.fieldLink RX1 19 (TX1 2).1 (TX1 2).2.1 (TX1 2).2.2.1 ∈ wsX1_renew := List.mem_of_getElem? (i := 2) rfl
theorem lkX1_renew_9 : Cond.fieldLink RX1 9 (TX1 0).1 (TX1 0).2.1 (TX1 0).2.2.1 ∈ wsX1_renew := List.mem_of_getElem? (i := 3) rfl
set_option maxHeartbeats 4000000 in
set_option maxRecDepth 100000 in
theorem kX1_renew (l : Launch) (G : Gl) (sh : Nat) (sc : Nat) (ln : Int32) (le : Int32) (F : Nat → Int32) (a : Int32) (b : Int32) : Wt l G yX1_renew wsX1_renew ({ frames := 0, cells := 0, slots := 0, locals := 0 } : Room) [.ref sh, .int a, .int b] [(sh, .inr (1, [.ref sc, .int ln, .int le])), (sc, aI G 60 F)] [(sh, .inr (1, [.ref sc, .int a, .int b])), (sc, aI G 60 (zr F 60))] none := by
  refine Wt.ofV (cc := cX1_renew) (maxL := 4) (by decide) rfl (Nat.le_of_ble_eq_true rfl) ?_
  intro p e s m below meth c Q A ls hE hin hP hK hD hS hl hret
  obtain ⟨hx, hb, hml, hown, hts⟩ := id hE
  have hl : lv_has ls 4 [(0, .ref sh), (1, .int a), (2, .int b)] := hl
  refine lv_aload_n hx hb dX1_renew_0 rfl (lv_at hl 0 rfl) ?_
  refine lv_iload_n hx hb dX1_renew_1 rfl (lv_at hl 1 rfl) ?_
  refine g_put (v := a) hx hb hts ixX1_renew_X1 tyX1 tyX1_ok nmX1 hown hK hP hD hS 0 rfl rfl 1 (by decide) lkX1_renew_15 rfl rfl (by simp only [List.length_cons, List.length_nil]; omega) dX1_renew_2 (fun H locs hP hD hS => ?_)
  have hP : va_P G.1 vwCl [(sh, .inr (1, [.ref sc, .int a, .int le])), (sc, aI G 60 F)] H := hP
  have hD : va_D A [(sh, .inr (1, [.ref sc, .int a, .int le])), (sc, aI G 60 F)] := hD
  refine lv_aload_n hx hb dX1_renew_5 rfl (lv_at hl 0 rfl) ?_
  refine lv_iload_n hx hb dX1_renew_6 rfl (lv_at hl 2 rfl) ?_
  refine g_put (v := b) hx hb hts ixX1_renew_X1 tyX1 tyX1_ok nmX1 hown hK hP hD hS 0 rfl rfl 2 (by decide) lkX1_renew_19 rfl rfl (by simp only [List.length_cons, List.length_nil]; omega) dX1_renew_7 (fun H locs hP hD hS => ?_)
  have hP : va_P G.1 vwCl [(sh, .inr (1, [.ref sc, .int a, .int b])), (sc, aI G 60 F)] H := hP
  have hD : va_D A [(sh, .inr (1, [.ref sc, .int a, .int b])), (sc, aI G 60 F)] := hD
  refine lv_iconst (v := nI 0) hx hb dX1_renew_10 (by decide) ?_
  refine lv_istore_n (lv' := [(3, .int (nI 0)), (0, .ref sh), (1, .int a), (2, .int b)]) hx hb dX1_renew_11 rfl hl (by decide) rfl (fun ls hl => ?_)
  have loop1 : ∀ (d k : Nat) (H : Heap) (locs : List Loc) (ls : Array Slot), 60 < k + d → k ≤ 60 → va_P G.1 vwCl [(sh, .inr (1, [.ref sc, .int a, .int b])), (sc, aI G 60 (zr F k))] H → va_D A [(sh, .inr (1, [.ref sc, .int a, .int b])), (sc, aI G 60 (zr F k))] → va_S A s.heap H locs → lv_has ls 4 [(3, .int (nI k)), (0, .ref sh), (1, .int a), (2, .int b)] → W p l e ({ frames := 0, cells := 0, slots := 0, locals := 0 } : Room) s m ([.ref sh, .int a, .int b] : List Value).toArray below meth c H locs 0 0 Q (F0 m 12 ls []) := by
    intro d
    induction d with
    | zero =>
      intro k H locs ls h1 h2
      omega
    | succ d ih1 =>
      intro k H locs ls hdk hbk hP hD hS hl
      refine lv_iload_n hx hb dX1_renew_12 rfl (lv_at hl 0 rfl) ?_
      refine lv_bipush (v := nI 60) hx hb dX1_renew_13 (by decide) ?_
      refine ic_ge (tgt := 31) hx hb (by omega) (by omega) dX1_renew_15 (by decide) (fun c1 => ?_) (fun c1 => ?_)
      ·
        obtain rfl : 60 = k := by omega
        exact hret _ _ _ _ (hP) hS dX1_renew_31
      ·
        refine lv_aload_n hx hb dX1_renew_18 rfl (lv_at hl 1 rfl) ?_
        refine g_get (v := .ref sc) hx hb hts ixX1_renew_X1 hown hK hP 0 rfl rfl 0 (by decide) lkX1_renew_9 rfl dX1_renew_19 ?_
        refine lv_iload_n hx hb dX1_renew_22 rfl (lv_at hl 0 rfl) ?_
        refine lv_iconst (v := nI 0) hx hb dX1_renew_23 (by decide) ?_
        refine n_ast hx hb hK hP hD hS 1 rfl (k := k) (by omega) (by decide) dX1_renew_24 (fun H locs hP hD hS => ?_)
        have hP : va_P G.1 vwCl [(sh, .inr (1, [.ref sc, .int a, .int b])), (sc, aI G 60 (upd (zr F k) k (nI 0)))] H := hP
        have hD : va_D A [(sh, .inr (1, [.ref sc, .int a, .int b])), (sc, aI G 60 (upd (zr F k) k (nI 0)))] := hD
        refine lv_iinc (v := nI (k + 1)) (lv' := [(3, .int (nI (k + 1))), (0, .ref sh), (1, .int a), (2, .int b)]) hx hb dX1_renew_25 hl (k := 0) rfl (show nI k + Int32.ofInt 1 = nI (k + 1) from nI_add _ 1) (by decide) rfl (fun ls hl => ?_)
        refine lv_goto (tgt := 12) hx hb dX1_renew_28 (by decide) ?_
        have hP2 : va_P G.1 vwCl [(sh, .inr (1, [.ref sc, .int a, .int b])), (sc, aI G 60 (zr F (k + 1)))] H := by
          rw [show (zr F (k + 1)) = (upd (zr F k) k (nI 0)) from by first | rfl | simp only [zr]]
          exact hP
        have hD2 : va_D A [(sh, .inr (1, [.ref sc, .int a, .int b])), (sc, aI G 60 (zr F (k + 1)))] := by
          rw [show (zr F (k + 1)) = (upd (zr F k) k (nI 0)) from by first | rfl | simp only [zr]]
          exact hD
        exact ih1 (k + 1) H locs ls (by omega) (by omega) hP2 hD2 hS (lv_sub hl [0, 1, 2, 3] rfl)
  have hP3 : va_P G.1 vwCl [(sh, .inr (1, [.ref sc, .int a, .int b])), (sc, aI G 60 (zr F 0))] H := by
    rw [show (zr F 0) = (F) from by first | rfl | simp only [zr]]
    exact hP
  have hD3 : va_D A [(sh, .inr (1, [.ref sc, .int a, .int b])), (sc, aI G 60 (zr F 0))] := by
    rw [show (zr F 0) = (F) from by first | rfl | simp only [zr]]
    exact hD
  exact loop1 (60 + 1) 0 H locs ls (by omega) (by omega) hP3 hD3 hS (lv_sub hl [0, 1, 2, 3] rfl)

theorem ixX1_hasCells_X1 : ∀ w ∈ wsX10, w ∈ wsX1_hasCells := fun _ h => List.mem_cons_of_mem _ (List.mem_append_right _ h)
theorem lkX1_hasCells_19 : Cond.fieldLink RX1 19 (TX1 2).1 (TX1 2).2.1 (TX1 2).2.2.1 ∈ wsX1_hasCells := List.mem_of_getElem? (i := 1) rfl
set_option maxHeartbeats 4000000 in
set_option maxRecDepth 100000 in
theorem kX1_hasCells (l : Launch) (G : Gl) (sh : Nat) (sc : Nat) (ln : Int32) (L : Nat) (i : Int32) (n : Int32) : Rd l G yX1_hasCells wsX1_hasCells ({ frames := 0, cells := 0, slots := 0, locals := 0 } : Room) [.ref sh, .int i, .int n] [(sh, .inr (1, [.ref sc, .int ln, .int (nI L)]))] (some (.int (bI (hc L i n)))) := by
  refine Rd.ofZ (cc := cX1_hasCells) (maxL := 3) (by decide) rfl (Nat.le_of_ble_eq_true rfl) ?_
  intro p e s m below meth c Q ls hE hP hK hl hret
  obtain ⟨hx, hb, hml, hown, hts⟩ := id hE
  have hl : lv_has ls 3 [(0, .ref sh), (1, .int i), (2, .int n)] := hl
  refine lv_iload_n hx hb dX1_hasCells_0 rfl (lv_at hl 1 rfl) ?_
  refine lv_if_lt (tgt := 30) hx hb dX1_hasCells_1 (by decide) (fun c1 => ?_) (fun c1 => ?_)
  ·
    refine lv_iconst (v := nI 0) hx hb dX1_hasCells_30 (by decide) ?_
    exact hret _ _ _ ((bI_f (fun h => by obtain ⟨h0, h1, h2, h3⟩ := h; contradiction)).symm) dX1_hasCells_31
  ·
    refine lv_iload_n hx hb dX1_hasCells_4 rfl (lv_at hl 1 rfl) ?_
    refine lv_aload_n hx hb dX1_hasCells_5 rfl (lv_at hl 0 rfl) ?_
    refine g_get (v := .int (nI L)) hx hb hts ixX1_hasCells_X1 hown hK hP 0 rfl rfl 2 (by decide) lkX1_hasCells_19 rfl dX1_hasCells_6 ?_
    refine lv_icmp_gt (tgt := 30) hx hb dX1_hasCells_9 (by decide) (fun c2 => ?_) (fun c2 => ?_)
    ·
      refine lv_iconst (v := nI 0) hx hb dX1_hasCells_30 (by decide) ?_
      exact hret _ _ _ ((bI_f (fun h => by obtain ⟨h0, h1, h2, h3⟩ := h; contradiction)).symm) dX1_hasCells_31
    ·
      refine lv_iload_n hx hb dX1_hasCells_12 rfl (lv_at hl 2 rfl) ?_
      refine lv_if_lt (tgt := 30) hx hb dX1_hasCells_13 (by decide) (fun c3 => ?_) (fun c3 => ?_)
      ·
        refine lv_iconst (v := nI 0) hx hb dX1_hasCells_30 (by decide) ?_
        exact hret _ _ _ ((bI_f (fun h => by obtain ⟨h0, h1, h2, h3⟩ := h; contradiction)).symm) dX1_hasCells_31
      ·
        refine lv_iload_n hx hb dX1_hasCells_16 rfl (lv_at hl 2 rfl) ?_
        refine lv_aload_n hx hb dX1_hasCells_17 rfl (lv_at hl 0 rfl) ?_
        refine g_get (v := .int (nI L)) hx hb hts ixX1_hasCells_X1 hown hK hP 0 rfl rfl 2 (by decide) lkX1_hasCells_19 rfl dX1_hasCells_18 ?_
        refine lv_iload_n hx hb dX1_hasCells_21 rfl (lv_at hl 1 rfl) ?_
        refine lv_isub hx hb dX1_hasCells_22 ?_
        refine lv_icmp_gt (tgt := 30) hx hb dX1_hasCells_23 (by decide) (fun c4 => ?_) (fun c4 => ?_)
        ·
          refine lv_iconst (v := nI 0) hx hb dX1_hasCells_30 (by decide) ?_
          exact hret _ _ _ ((bI_f (fun h => by obtain ⟨h0, h1, h2, h3⟩ := h; contradiction)).symm) dX1_hasCells_31
        ·
          refine lv_iconst (v := nI 1) hx hb dX1_hasCells_26 (by decide) ?_
          refine lv_goto (tgt := 31) hx hb dX1_hasCells_27 (by decide) ?_
          exact hret _ _ _ ((bI_t ⟨c1, c2, c3, c4⟩).symm) dX1_hasCells_31

theorem ixX1_cut_X1 : ∀ w ∈ wsX10, w ∈ wsX1_cut := fun _ h => List.mem_cons_of_mem _ (List.mem_append_right _ h)
theorem lkX1_cut_15 : Cond.fieldLink RX1 15 (TX1 1).1 (TX1 1).2.1 (TX1 1).2.2.1 ∈ wsX1_cut := List.mem_of_getElem? (i := 1) rfl
set_option maxHeartbeats 4000000 in
set_option maxRecDepth 100000 in
theorem kX1_cut (l : Launch) (G : Gl) (sh : Nat) (sc : Nat) (ln : Int32) (L : Nat) (v : Int32) : Rd l G yX1_cut wsX1_cut ({ frames := 0, cells := 0, slots := 0, locals := 0 } : Room) [.ref sh, .int v] [(sh, .inr (1, [.ref sc, .int ln, .int (nI L)]))] (some (.int (ctl ln v))) := by
  refine Rd.ofI (cc := cX1_cut) (maxL := 2) (by decide) rfl (Nat.le_of_ble_eq_true rfl) ?_
  intro p e s m below meth c Q ls hE hP hK hl hret
  obtain ⟨hx, hb, hml, hown, hts⟩ := id hE
  have hl : lv_has ls 2 [(0, .ref sh), (1, .int v)] := hl
  refine lv_aload_n hx hb dX1_cut_0 rfl (lv_at hl 0 rfl) ?_
  refine g_get (v := .int ln) hx hb hts ixX1_cut_X1 hown hK hP 0 rfl rfl 1 (by decide) lkX1_cut_15 rfl dX1_cut_1 ?_
  by_cases c1 : ln = 0
  ·
    refine lv_lookup (tgt := 32) (off := 28) hx hb dX1_cut_4 (by decide) (by rw [c1]; decide) (by decide) ?_
    refine lv_iload_n hx hb dX1_cut_32 rfl (lv_at hl 1 rfl) ?_
    refine lv_i2b (v := v.toInt8.toInt32) hx hb dX1_cut_33 rfl ?_
    exact hret _ _ _ (by first | with_reducible rfl | simp only [ctl, iF_t c1]) dX1_cut_34
  ·
    by_cases c2 : ln = 1
    ·
      refine lv_lookup (tgt := 35) (off := 31) hx hb dX1_cut_4 (by decide) (by rw [c2]; decide) (by decide) ?_
      refine lv_iload_n hx hb dX1_cut_35 rfl (lv_at hl 1 rfl) ?_
      refine lv_i2s (v := v.toInt16.toInt32) hx hb dX1_cut_36 rfl ?_
      exact hret _ _ _ (by first | with_reducible rfl | simp only [ctl, iF_f c1, iF_t c2]) dX1_cut_37
    ·
      refine lv_lookup (tgt := 38) (off := 34) hx hb dX1_cut_4 (by decide) (by rw [lv_osw (k := 0) c1 (by decide), lv_osw (k := 1) c2 (by decide)]; rfl) (by decide) ?_
      refine lv_iload_n hx hb dX1_cut_38 rfl (lv_at hl 1 rfl) ?_
      exact hret _ _ _ (by first | with_reducible rfl | simp only [ctl, iF_f c1, iF_f c2]) dX1_cut_39

theorem ixX1_faultOfTaking_X1 : ∀ w ∈ wsX10, w ∈ wsX1_faultOfTaking := fun _ h => List.mem_cons_of_mem _ (List.mem_append_right _ h)
theorem lkX1_faultOfTaking_15 : Cond.fieldLink RX1 15 (TX1 1).1 (TX1 1).2.1 (TX1 1).2.2.1 ∈ wsX1_faultOfTaking := List.mem_of_getElem? (i := 1) rfl
set_option maxHeartbeats 4000000 in
set_option maxRecDepth 100000 in
theorem kX1_faultOfTaking (l : Launch) (G : Gl) (sh : Nat) (sc : Nat) (ln : Int32) (L : Nat) (q : Int32) (i : Int32) (n : Int32) : Rd l G yX1_faultOfTaking wsX1_faultOfTaking ({ frames := 1, cells := 0, slots := 0, locals := 22 } : Room) [.ref sh, .int q, .int i, .int n] [(sh, .inr (1, [.ref sc, .int ln, .int (nI L)]))] (some (.int (ft ln L q i n))) := by
  refine Rd.ofI (cc := cX1_faultOfTaking) (maxL := 4) (by decide) rfl (Nat.le_of_ble_eq_true rfl) ?_
  intro p e s m below meth c Q ls hE hP hK hl hret
  obtain ⟨hx, hb, hml, hown, hts⟩ := id hE
  have hl : lv_has ls 4 [(0, .ref sh), (1, .int q), (2, .int i), (3, .int n)] := hl
  refine lv_aload_n hx hb dX1_faultOfTaking_0 rfl (lv_at hl 0 rfl) ?_
  refine rdV (As := []) (rest := []) (ci := 1) (q0 := 0) hE (kX1_hasNothing l G sh sc ln L ) (cwV 0 hts gX1_faultOfTaking_X1_hasNothing rfl rfl rfl (by decide +kernel) ⟨Nat.le_of_ble_eq_true rfl, Nat.le_of_ble_eq_true rfl⟩) hP hK [0] rfl rfl rfl rfl hl.1 rfl (Nat.le_of_ble_eq_true rfl) dX1_faultOfTaking_1 ⟨Nat.zero_le _, Nat.zero_le _⟩ ?_
  refine W.eq (g2 := F0 m 4 ls [.int (bI (ln = (-1)))]) rfl ?_
  refine bz_eq (tgt := 9) hx hb dX1_faultOfTaking_4 (by decide) (fun c1 => ?_) (fun c1 => ?_)
  ·
    refine lv_aload_n hx hb dX1_faultOfTaking_9 rfl (lv_at hl 0 rfl) ?_
    refine g_get (v := .int ln) hx hb hts ixX1_faultOfTaking_X1 hown hK hP 0 rfl rfl 1 (by decide) lkX1_faultOfTaking_15 rfl dX1_faultOfTaking_10 ?_
    refine lv_iload_n hx hb dX1_faultOfTaking_13 rfl (lv_at hl 1 rfl) ?_
    refine lv_icmp_eq (tgt := 19) hx hb dX1_faultOfTaking_14 (by decide) (fun c2 => ?_) (fun c2 => ?_)
    ·
      refine lv_iload_n hx hb dX1_faultOfTaking_19 rfl (lv_at hl 3 rfl) ?_
      refine lv_if_ge (tgt := 25) hx hb dX1_faultOfTaking_20 (by decide) (fun c3 => ?_) (fun c3 => ?_)
      ·
        refine lv_aload_n hx hb dX1_faultOfTaking_25 rfl (lv_at hl 0 rfl) ?_
        refine lv_iload_n hx hb dX1_faultOfTaking_26 rfl (lv_at hl 2 rfl) ?_
        refine lv_iload_n hx hb dX1_faultOfTaking_27 rfl (lv_at hl 3 rfl) ?_
        refine rdV (As := [.int i, .int n]) (rest := []) (ci := 1) (q0 := 0) hE (kX1_hasCells l G sh sc ln L i n ) (cwV 2 hts gX1_faultOfTaking_X1_hasCells rfl rfl rfl (by decide +kernel) ⟨Nat.le_of_ble_eq_true rfl, Nat.le_of_ble_eq_true rfl⟩) hP hK [0] rfl rfl rfl rfl hl.1 rfl (Nat.le_of_ble_eq_true rfl) dX1_faultOfTaking_28 ⟨Nat.zero_le _, Nat.zero_le _⟩ ?_
        refine W.eq (g2 := F0 m 31 ls [.int (bI (hc L i n))]) rfl ?_
        refine bz_eq (tgt := 38) hx hb dX1_faultOfTaking_31 (by decide) (fun c4 => ?_) (fun c4 => ?_)
        ·
          refine lv_iconst (v := nI 3) hx hb dX1_faultOfTaking_38 (by decide) ?_
          exact hret _ _ _ (by first | with_reducible rfl | simp only [ft, iF_f c1, iF_t c2, iF_t c3, iF_f (i32_le c3), iF_f c4]) dX1_faultOfTaking_39
        ·
          refine lv_iconst (v := nI 0) hx hb dX1_faultOfTaking_34 (by decide) ?_
          refine lv_goto (tgt := 39) hx hb dX1_faultOfTaking_35 (by decide) ?_
          exact hret _ _ _ (by first | with_reducible rfl | simp only [ft, iF_f c1, iF_t c2, iF_t c3, iF_f (i32_le c3), iF_t c4]) dX1_faultOfTaking_39
      ·
        refine lv_iconst (v := nI 4) hx hb dX1_faultOfTaking_23 (by decide) ?_
        exact hret _ _ _ (by first | with_reducible rfl | simp only [ft, iF_f c1, iF_t c2, iF_f c3, iF_t (i32_nle c3)]) dX1_faultOfTaking_24
    ·
      refine lv_iconst (v := nI 2) hx hb dX1_faultOfTaking_17 (by decide) ?_
      exact hret _ _ _ (by first | with_reducible rfl | simp only [ft, iF_f c1, iF_f c2]) dX1_faultOfTaking_18
  ·
    refine lv_iconst (v := nI 1) hx hb dX1_faultOfTaking_7 (by decide) ?_
    exact hret _ _ _ (by first | with_reducible rfl | simp only [ft, iF_t c1]) dX1_faultOfTaking_8

set_option maxHeartbeats 4000000 in
set_option maxRecDepth 100000 in
theorem kX4_isWithin (l : Launch) (G : Gl) (q : Int32) (n : Nat) (hn : n < 2 ^ 30) : Rd l G yX4_isWithin wsX4_isWithin ({ frames := 0, cells := 0, slots := 0, locals := 0 } : Room) [.int q, .int (nI n)] [] (some (.int (bI (vp_in q (n + 1))))) := by
  refine Rd.ofZ (cc := cX4_isWithin) (maxL := 2) (by decide) rfl (Nat.le_of_ble_eq_true rfl) ?_
  intro p e s m below meth c Q ls hE hP hK hl hret
  obtain ⟨hx, hb, hml, hown, hts⟩ := id hE
  have hl : lv_has ls 2 [(0, .int q), (1, .int (nI n))] := hl
  refine lv_iload_n hx hb dX4_isWithin_0 rfl (lv_at hl 0 rfl) ?_
  refine lv_if_lt (tgt := 13) hx hb dX4_isWithin_1 (by decide) (fun c1 => ?_) (fun c1 => ?_)
  ·
    refine lv_iconst (v := nI 0) hx hb dX4_isWithin_13 (by decide) ?_
    exact hret _ _ _ ((bI_f (vin_f1 c1)).symm) dX4_isWithin_14
  ·
    refine lv_iload_n hx hb dX4_isWithin_4 rfl (lv_at hl 0 rfl) ?_
    refine lv_iload_n hx hb dX4_isWithin_5 rfl (lv_at hl 1 rfl) ?_
    refine lv_icmp_gt (tgt := 13) hx hb dX4_isWithin_6 (by decide) (fun c2 => ?_) (fun c2 => ?_)
    ·
      refine lv_iconst (v := nI 0) hx hb dX4_isWithin_13 (by decide) ?_
      exact hret _ _ _ ((bI_f (vin_f3 (i32_lt c2) (by omega))).symm) dX4_isWithin_14
    ·
      refine lv_iconst (v := nI 1) hx hb dX4_isWithin_9 (by decide) ?_
      refine lv_goto (tgt := 14) hx hb dX4_isWithin_10 (by decide) ?_
      exact hret _ _ _ ((bI_t (vin_t1 c1 (i32_nlt c2) (by omega))).symm) dX4_isWithin_14

set_option maxHeartbeats 4000000 in
set_option maxRecDepth 100000 in
theorem kX4_isSheet (l : Launch) (G : Gl) (q : Int32) : Rd l G yX4_isSheet wsX4_isSheet ({ frames := 0, cells := 0, slots := 0, locals := 0 } : Room) [.int q] [] (some (.int (bI (vp_in q 4)))) := by
  refine Rd.ofZ (cc := cX4_isSheet) (maxL := 1) (by decide) rfl (Nat.le_of_ble_eq_true rfl) ?_
  intro p e s m below meth c Q ls hE hP hK hl hret
  obtain ⟨hx, hb, hml, hown, hts⟩ := id hE
  have hl : lv_has ls 1 [(0, .int q)] := hl
  refine lv_iload_n hx hb dX4_isSheet_0 rfl (lv_at hl 0 rfl) ?_
  refine lv_if_lt (tgt := 13) hx hb dX4_isSheet_1 (by decide) (fun c1 => ?_) (fun c1 => ?_)
  ·
    refine lv_iconst (v := nI 0) hx hb dX4_isSheet_13 (by decide) ?_
    exact hret _ _ _ (by first | exact (bI_t (vin_t c1 c1 (by omega))).symm | exact (bI_f (vin_f1 c1)).symm | exact (bI_f (vin_f2 c1 (by omega))).symm | exact (bI_t (vin_t1 c1 c1 (by omega))).symm | exact (bI_f (vin_f3 c1 (by omega))).symm) dX4_isSheet_14
  ·
    refine lv_iload_n hx hb dX4_isSheet_4 rfl (lv_at hl 0 rfl) ?_
    refine lv_iconst (v := nI 4) hx hb dX4_isSheet_5 (by decide) ?_
    refine lv_icmp_ge (tgt := 13) hx hb dX4_isSheet_6 (by decide) (fun c2 => ?_) (fun c2 => ?_)
    ·
      refine lv_iconst (v := nI 0) hx hb dX4_isSheet_13 (by decide) ?_
      exact hret _ _ _ (by first | exact (bI_t (vin_t c1 c2 (by omega))).symm | exact (bI_f (vin_f1 c1)).symm | exact (bI_f (vin_f2 c2 (by omega))).symm | exact (bI_t (vin_t1 c1 c2 (by omega))).symm | exact (bI_f (vin_f3 c2 (by omega))).symm) dX4_isSheet_14
    ·
      refine lv_iconst (v := nI 1) hx hb dX4_isSheet_9 (by decide) ?_
      refine lv_goto (tgt := 14) hx hb dX4_isSheet_10 (by decide) ?_
      exact hret _ _ _ (by first | exact (bI_t (vin_t c1 c2 (by omega))).symm | exact (bI_f (vin_f1 c1)).symm | exact (bI_f (vin_f2 c2 (by omega))).symm | exact (bI_t (vin_t1 c1 c2 (by omega))).symm | exact (bI_f (vin_f3 c2 (by omega))).symm) dX4_isSheet_14

set_option maxHeartbeats 4000000 in
set_option maxRecDepth 100000 in
theorem kX4_isLane (l : Launch) (G : Gl) (q : Int32) : Rd l G yX4_isLane wsX4_isLane ({ frames := 0, cells := 0, slots := 0, locals := 0 } : Room) [.int q] [] (some (.int (bI (vp_in q (2 + 1))))) := by
  refine Rd.ofZ (cc := cX4_isLane) (maxL := 1) (by decide) rfl (Nat.le_of_ble_eq_true rfl) ?_
  intro p e s m below meth c Q ls hE hP hK hl hret
  obtain ⟨hx, hb, hml, hown, hts⟩ := id hE
  have hl : lv_has ls 1 [(0, .int q)] := hl
  refine lv_iload_n hx hb dX4_isLane_0 rfl (lv_at hl 0 rfl) ?_
  refine lv_if_lt (tgt := 13) hx hb dX4_isLane_1 (by decide) (fun c1 => ?_) (fun c1 => ?_)
  ·
    refine lv_iconst (v := nI 0) hx hb dX4_isLane_13 (by decide) ?_
    exact hret _ _ _ ((bI_f (vin_f1 c1)).symm) dX4_isLane_14
  ·
    refine lv_iload_n hx hb dX4_isLane_4 rfl (lv_at hl 0 rfl) ?_
    refine lv_iconst (v := nI 2) hx hb dX4_isLane_5 (by decide) ?_
    refine lv_icmp_gt (tgt := 13) hx hb dX4_isLane_6 (by decide) (fun c2 => ?_) (fun c2 => ?_)
    ·
      refine lv_iconst (v := nI 0) hx hb dX4_isLane_13 (by decide) ?_
      exact hret _ _ _ ((bI_f (vin_f3 (i32_lt c2) (by omega))).symm) dX4_isLane_14
    ·
      refine lv_iconst (v := nI 1) hx hb dX4_isLane_9 (by decide) ?_
      refine lv_goto (tgt := 14) hx hb dX4_isLane_10 (by decide) ?_
      exact hret _ _ _ ((bI_t (vin_t1 c1 (i32_nlt c2) (by omega))).symm) dX4_isLane_14

theorem ixX4_refused_X4 : ∀ w ∈ wsX40, w ∈ wsX4_refused := fun _ h => List.mem_cons_of_mem _ (List.mem_append_right _ h)
theorem lkX4_refused_40 : Cond.fieldLink RX4 40 (TX4 6).1 (TX4 6).2.1 (TX4 6).2.2.1 ∈ wsX4_refused := List.mem_of_getElem? (i := 1) rfl
set_option maxHeartbeats 4000000 in
set_option maxRecDepth 100000 in
theorem kX4_refused (l : Launch) (G : Gl) (x : Nat) (st : Nat) (tr : Nat) (ra : Nat) (sa : Nat) (R : Nat) (tc : Int32) (fl : Int32) (q : Int32) : Wt l G yX4_refused wsX4_refused ({ frames := 0, cells := 0, slots := 0, locals := 0 } : Room) [.ref x, .int q] [(x, .inr (4, [.ref st, .ref tr, .ref ra, .int (nI R), .ref sa, .int tc, .int fl]))] [(x, .inr (4, [.ref st, .ref tr, .ref ra, .int (nI R), .ref sa, .int tc, .int (nI 0)]))] (some (.int q)) := by
  refine Wt.ofI (cc := cX4_refused) (maxL := 2) (by decide) rfl (Nat.le_of_ble_eq_true rfl) ?_
  intro p e s m below meth c Q A ls hE hP hK hD hS hl hret
  obtain ⟨hx, hb, hml, hown, hts⟩ := id hE
  have hl : lv_has ls 2 [(0, .ref x), (1, .int q)] := hl
  refine lv_aload_n hx hb dX4_refused_0 rfl (lv_at hl 0 rfl) ?_
  refine lv_iconst (v := nI 0) hx hb dX4_refused_1 (by decide) ?_
  refine g_put (v := (nI 0)) hx hb hts ixX4_refused_X4 tyX4 tyX4_ok nmX4 hown hK hP hD hS 0 rfl rfl 6 (by decide) lkX4_refused_40 rfl rfl (by simp only [List.length_cons, List.length_nil]; omega) dX4_refused_2 (fun H locs hP hD hS => ?_)
  have hP : va_P G.1 vwCl [(x, .inr (4, [.ref st, .ref tr, .ref ra, .int (nI R), .ref sa, .int tc, .int (nI 0)]))] H := hP
  have hD : va_D A [(x, .inr (4, [.ref st, .ref tr, .ref ra, .int (nI R), .ref sa, .int tc, .int (nI 0)]))] := hD
  refine lv_iload_n hx hb dX4_refused_5 rfl (lv_at hl 1 rfl) ?_
  exact hret _ _ _ _ _ (by first | with_reducible rfl | simp only []) (hP) hS dX4_refused_6

theorem ixX4_faulted_X4 : ∀ w ∈ wsX40, w ∈ wsX4_faulted := fun _ h => List.mem_cons_of_mem _ (List.mem_append_right _ h)
theorem lkX4_faulted_40 : Cond.fieldLink RX4 40 (TX4 6).1 (TX4 6).2.1 (TX4 6).2.2.1 ∈ wsX4_faulted := List.mem_of_getElem? (i := 1) rfl
set_option maxHeartbeats 4000000 in
set_option maxRecDepth 100000 in
theorem kX4_faulted (l : Launch) (G : Gl) (x : Nat) (st : Nat) (tr : Nat) (ra : Nat) (sa : Nat) (R : Nat) (tc : Int32) (fl : Int32) (q : Int32) : Wt l G yX4_faulted wsX4_faulted ({ frames := 0, cells := 0, slots := 0, locals := 0 } : Room) [.ref x, .int q] [(x, .inr (4, [.ref st, .ref tr, .ref ra, .int (nI R), .ref sa, .int tc, .int fl]))] [(x, .inr (4, [.ref st, .ref tr, .ref ra, .int (nI R), .ref sa, .int tc, .int q]))] (some (.int ((-10) - q))) := by
  refine Wt.ofI (cc := cX4_faulted) (maxL := 2) (by decide) rfl (Nat.le_of_ble_eq_true rfl) ?_
  intro p e s m below meth c Q A ls hE hP hK hD hS hl hret
  obtain ⟨hx, hb, hml, hown, hts⟩ := id hE
  have hl : lv_has ls 2 [(0, .ref x), (1, .int q)] := hl
  refine lv_aload_n hx hb dX4_faulted_0 rfl (lv_at hl 0 rfl) ?_
  refine lv_iload_n hx hb dX4_faulted_1 rfl (lv_at hl 1 rfl) ?_
  refine g_put (v := q) hx hb hts ixX4_faulted_X4 tyX4 tyX4_ok nmX4 hown hK hP hD hS 0 rfl rfl 6 (by decide) lkX4_faulted_40 rfl rfl (by simp only [List.length_cons, List.length_nil]; omega) dX4_faulted_2 (fun H locs hP hD hS => ?_)
  have hP : va_P G.1 vwCl [(x, .inr (4, [.ref st, .ref tr, .ref ra, .int (nI R), .ref sa, .int tc, .int q]))] H := hP
  have hD : va_D A [(x, .inr (4, [.ref st, .ref tr, .ref ra, .int (nI R), .ref sa, .int tc, .int q]))] := hD
  refine lv_bipush (v := (-10)) hx hb dX4_faulted_5 (by decide) ?_
  refine lv_iload_n hx hb dX4_faulted_7 rfl (lv_at hl 1 rfl) ?_
  refine lv_isub hx hb dX4_faulted_8 ?_
  exact hret _ _ _ _ _ (by first | with_reducible rfl | simp only []) (hP) hS dX4_faulted_9

theorem ixX4_leaveTrace_X4 : ∀ w ∈ wsX40, w ∈ wsX4_leaveTrace := fun _ h => List.mem_cons_of_mem _ (List.mem_append_right _ h)
theorem lkX4_leaveTrace_37 : Cond.fieldLink RX4 37 (TX4 5).1 (TX4 5).2.1 (TX4 5).2.2.1 ∈ wsX4_leaveTrace := List.mem_of_getElem? (i := 1) rfl
set_option maxHeartbeats 4000000 in
set_option maxRecDepth 100000 in
theorem kX4_leaveTrace (l : Launch) (G : Gl) (x : Nat) (st : Nat) (tr : Nat) (ra : Nat) (sa : Nat) (R : Nat) (tc : Int32) (fl : Int32) (q : Int32) : Wt l G yX4_leaveTrace wsX4_leaveTrace ({ frames := 0, cells := 0, slots := 0, locals := 0 } : Room) [.ref x, .int q] [(x, .inr (4, [.ref st, .ref tr, .ref ra, .int (nI R), .ref sa, .int tc, .int fl]))] [(x, .inr (4, [.ref st, .ref tr, .ref ra, .int (nI R), .ref sa, .int (lt1 tc q), .int fl]))] none := by
  refine Wt.ofV (cc := cX4_leaveTrace) (maxL := 2) (by decide) rfl (Nat.le_of_ble_eq_true rfl) ?_
  intro p e s m below meth c Q A ls hE hin hP hK hD hS hl hret
  obtain ⟨hx, hb, hml, hown, hts⟩ := id hE
  have hl : lv_has ls 2 [(0, .ref x), (1, .int q)] := hl
  refine lv_aload_n hx hb dX4_leaveTrace_0 rfl (lv_at hl 0 rfl) ?_
  refine lv_bipush (v := nI 31) hx hb dX4_leaveTrace_1 (by decide) ?_
  refine lv_aload_n hx hb dX4_leaveTrace_3 rfl (lv_at hl 0 rfl) ?_
  refine g_get (v := .int tc) hx hb hts ixX4_leaveTrace_X4 hown hK hP 0 rfl rfl 5 (by decide) lkX4_leaveTrace_37 rfl dX4_leaveTrace_4 ?_
  refine lv_imul hx hb dX4_leaveTrace_7 ?_
  refine lv_iload_n hx hb dX4_leaveTrace_8 rfl (lv_at hl 1 rfl) ?_
  refine lv_iadd hx hb dX4_leaveTrace_9 ?_
  refine g_put (v := (((nI 31) * tc) + q)) hx hb hts ixX4_leaveTrace_X4 tyX4 tyX4_ok nmX4 hown hK hP hD hS 0 rfl rfl 5 (by decide) lkX4_leaveTrace_37 rfl rfl (by simp only [List.length_cons, List.length_nil]; omega) dX4_leaveTrace_10 (fun H locs hP hD hS => ?_)
  have hP : va_P G.1 vwCl [(x, .inr (4, [.ref st, .ref tr, .ref ra, .int (nI R), .ref sa, .int (((nI 31) * tc) + q), .int fl]))] H := hP
  have hD : va_D A [(x, .inr (4, [.ref st, .ref tr, .ref ra, .int (nI R), .ref sa, .int (((nI 31) * tc) + q), .int fl]))] := hD
  exact hret _ _ _ _ (by first | exact hP | (simp only []; exact hP)) hS dX4_leaveTrace_13

theorem ixX4_trace_X4 : ∀ w ∈ wsX40, w ∈ wsX4_trace := fun _ h => List.mem_cons_of_mem _ (List.mem_append_right _ h)
theorem lkX4_trace_37 : Cond.fieldLink RX4 37 (TX4 5).1 (TX4 5).2.1 (TX4 5).2.2.1 ∈ wsX4_trace := List.mem_of_getElem? (i := 1) rfl
set_option maxHeartbeats 4000000 in
set_option maxRecDepth 100000 in
theorem kX4_trace (l : Launch) (G : Gl) (x : Nat) (st : Nat) (tr : Nat) (ra : Nat) (sa : Nat) (R : Nat) (tc : Int32) (fl : Int32) : Rd l G yX4_trace wsX4_trace ({ frames := 0, cells := 0, slots := 0, locals := 0 } : Room) [.ref x] [(x, .inr (4, [.ref st, .ref tr, .ref ra, .int (nI R), .ref sa, .int tc, .int fl]))] (some (.int tc)) := by
  refine Rd.ofI (cc := cX4_trace) (maxL := 1) (by decide) rfl (Nat.le_of_ble_eq_true rfl) ?_
  intro p e s m below meth c Q ls hE hP hK hl hret
  obtain ⟨hx, hb, hml, hown, hts⟩ := id hE
  have hl : lv_has ls 1 [(0, .ref x)] := hl
  refine lv_aload_n hx hb dX4_trace_0 rfl (lv_at hl 0 rfl) ?_
  refine g_get (v := .int tc) hx hb hts ixX4_trace_X4 hown hK hP 0 rfl rfl 5 (by decide) lkX4_trace_37 rfl dX4_trace_1 ?_
  exact hret _ _ _ (by first | with_reducible rfl | simp only []) dX4_trace_4

theorem ixX4_fault_X4 : ∀ w ∈ wsX40, w ∈ wsX4_fault := fun _ h => List.mem_cons_of_mem _ (List.mem_append_right _ h)
theorem lkX4_fault_40 : Cond.fieldLink RX4 40 (TX4 6).1 (TX4 6).2.1 (TX4 6).2.2.1 ∈ wsX4_fault := List.mem_of_getElem? (i := 1) rfl
set_option maxHeartbeats 4000000 in
set_option maxRecDepth 100000 in
theorem kX4_fault (l : Launch) (G : Gl) (x : Nat) (st : Nat) (tr : Nat) (ra : Nat) (sa : Nat) (R : Nat) (tc : Int32) (fl : Int32) : Rd l G yX4_fault wsX4_fault ({ frames := 0, cells := 0, slots := 0, locals := 0 } : Room) [.ref x] [(x, .inr (4, [.ref st, .ref tr, .ref ra, .int (nI R), .ref sa, .int tc, .int fl]))] (some (.int fl)) := by
  refine Rd.ofI (cc := cX4_fault) (maxL := 1) (by decide) rfl (Nat.le_of_ble_eq_true rfl) ?_
  intro p e s m below meth c Q ls hE hP hK hl hret
  obtain ⟨hx, hb, hml, hown, hts⟩ := id hE
  have hl : lv_has ls 1 [(0, .ref x)] := hl
  refine lv_aload_n hx hb dX4_fault_0 rfl (lv_at hl 0 rfl) ?_
  refine g_get (v := .int fl) hx hb hts ixX4_fault_X4 hown hK hP 0 rfl rfl 6 (by decide) lkX4_fault_40 rfl dX4_fault_1 ?_
  exact hret _ _ _ (by first | with_reducible rfl | simp only []) dX4_fault_4

theorem ixX4_ofBoy_X4 : ∀ w ∈ wsX40, w ∈ wsX4_ofBoy := fun _ h => List.mem_cons_of_mem _ (List.mem_append_left _ (List.mem_append_right _ h))
theorem lkX4_ofBoy_12 : Cond.fieldLink RX4 12 (TX4 0).1 (TX4 0).2.1 (TX4 0).2.2.1 ∈ wsX4_ofBoy := List.mem_of_getElem? (i := 1) rfl
theorem ixX4_ofBoy_X2 : ∀ w ∈ wsX20, w ∈ wsX4_ofBoy := fun _ h => List.mem_cons_of_mem _ (List.mem_append_right _ h)
set_option maxHeartbeats 4000000 in
set_option maxRecDepth 100000 in
theorem kX4_ofBoy (l : Launch) (G : Gl) (x : Nat) (st : Nat) (tr : Nat) (ra : Nat) (sa : Nat) (R : Nat) (tc : Int32) (fl : Int32) (ap : Nat) (ak : Nat) (ao : Nat) (M : Nat) (B : Nat) (K : Nat → Int32) (U : Nat → Int32) (b : Int32) (w : Int32) (hB : B ≤ 4) : Rd l G yX4_ofBoy wsX4_ofBoy ({ frames := 1, cells := 0, slots := 0, locals := 21 } : Room) [.ref x, .int b, .int w] [(x, .inr (4, [.ref st, .ref tr, .ref ra, .int (nI R), .ref sa, .int tc, .int fl])), (st, .inr (2, [.ref ap, .ref ak, .ref ao, .int (nI M), .int (nI B)])), (ak, aI G 4 K), (ao, aI G 4 U)] (some (.int (s_ofBoy B K U b w))) := by
  refine Rd.ofI (cc := cX4_ofBoy) (maxL := 3) (by decide) rfl (Nat.le_of_ble_eq_true rfl) ?_
  intro p e s m below meth c Q ls hE hP hK hl hret
  obtain ⟨hx, hb, hml, hown, hts⟩ := id hE
  have hl : lv_has ls 3 [(0, .ref x), (1, .int b), (2, .int w)] := hl
  refine lv_aload_n hx hb dX4_ofBoy_0 rfl (lv_at hl 0 rfl) ?_
  refine g_get (v := .ref st) hx hb hts ixX4_ofBoy_X4 hown hK hP 0 rfl rfl 0 (by decide) lkX4_ofBoy_12 rfl dX4_ofBoy_1 ?_
  refine lv_iload_n hx hb dX4_ofBoy_4 rfl (lv_at hl 1 rfl) ?_
  refine rdV (As := [.int b]) (rest := []) (ci := 2) (q0 := 1) hE (kX2_hasBoy l G st ap ak ao M B b hB) (cwV 1 hts gX4_ofBoy_X2_hasBoy rfl rfl rfl (by decide +kernel) ⟨Nat.le_of_ble_eq_true rfl, Nat.le_of_ble_eq_true rfl⟩) hP hK [1] rfl rfl rfl rfl hl.1 rfl (Nat.le_of_ble_eq_true rfl) dX4_ofBoy_5 ⟨Nat.zero_le _, Nat.zero_le _⟩ ?_
  refine W.eq (g2 := F0 m 8 ls [.int (bI (vp_in b B))]) rfl ?_
  refine bz_ne (tgt := 13) hx hb dX4_ofBoy_8 (by decide) (fun c1 => ?_) (fun c1 => ?_)
  ·
    obtain ⟨jb, hjb, rfl⟩ := vp_in_of c1 (by omega)
    refine lv_iload_n hx hb dX4_ofBoy_13 rfl (lv_at hl 2 rfl) ?_
    by_cases c2 : w = 0
    ·
      refine lv_tableIn (tgt := 40) (off := 26) hx hb dX4_ofBoy_14 (by rw [c2]; decide) (by rw [c2]; decide) (by rw [c2]; decide) (by decide) ?_
      refine lv_aload_n hx hb dX4_ofBoy_40 rfl (lv_at hl 0 rfl) ?_
      refine g_get (v := .ref st) hx hb hts ixX4_ofBoy_X4 hown hK hP 0 rfl rfl 0 (by decide) lkX4_ofBoy_12 rfl dX4_ofBoy_41 ?_
      refine g_getN (v := .ref ak) hx hb hts ixX4_ofBoy_X2 hown hK hP 1 rfl rfl 1 (by decide) nkX4_82 rfl dX4_ofBoy_44 ?_
      refine lv_iload_n hx hb dX4_ofBoy_47 rfl (lv_at hl 1 rfl) ?_
      refine n_ald hx hb hK hP 2 rfl (k := jb) (by omega) (by decide) dX4_ofBoy_48 ?_
      exact hret _ _ _ (by first | with_reducible rfl | simp only [s_ofBoy, iF_t c1, iF_t c2, tn_nI (show jb < 2 ^ 31 by omega)]) dX4_ofBoy_49
    ·
      by_cases c3 : w = 1
      ·
        refine lv_tableIn (tgt := 50) (off := 36) hx hb dX4_ofBoy_14 (by rw [c3]; decide) (by rw [c3]; decide) (by rw [c3]; decide) (by decide) ?_
        refine lv_aload_n hx hb dX4_ofBoy_50 rfl (lv_at hl 0 rfl) ?_
        refine g_get (v := .ref st) hx hb hts ixX4_ofBoy_X4 hown hK hP 0 rfl rfl 0 (by decide) lkX4_ofBoy_12 rfl dX4_ofBoy_51 ?_
        refine g_getN (v := .ref ao) hx hb hts ixX4_ofBoy_X2 hown hK hP 1 rfl rfl 2 (by decide) nkX4_86 rfl dX4_ofBoy_54 ?_
        refine lv_iload_n hx hb dX4_ofBoy_57 rfl (lv_at hl 1 rfl) ?_
        refine n_ald hx hb hK hP 3 rfl (k := jb) (by omega) (by decide) dX4_ofBoy_58 ?_
        exact hret _ _ _ (by first | with_reducible rfl | simp only [s_ofBoy, iF_t c1, iF_f c2, iF_t c3, tn_nI (show jb < 2 ^ 31 by omega)]) dX4_ofBoy_59
      ·
        by_cases c4 : w = 2
        ·
          refine lv_tableIn (tgt := 60) (off := 46) hx hb dX4_ofBoy_14 (by rw [c4]; decide) (by rw [c4]; decide) (by rw [c4]; decide) (by decide) ?_
          refine lv_aload_n hx hb dX4_ofBoy_60 rfl (lv_at hl 0 rfl) ?_
          refine g_get (v := .ref st) hx hb hts ixX4_ofBoy_X4 hown hK hP 0 rfl rfl 0 (by decide) lkX4_ofBoy_12 rfl dX4_ofBoy_61 ?_
          refine g_getN (v := .ref ak) hx hb hts ixX4_ofBoy_X2 hown hK hP 1 rfl rfl 1 (by decide) nkX4_82 rfl dX4_ofBoy_64 ?_
          refine lv_iload_n hx hb dX4_ofBoy_67 rfl (lv_at hl 1 rfl) ?_
          refine n_ald hx hb hK hP 2 rfl (k := jb) (by omega) (by decide) dX4_ofBoy_68 ?_
          refine rdS (As := [.int (K jb)]) (rest := []) hE (kX4_learning l G (K jb) ) (va_cwS 1 hts gX4_ofBoy_X4_learning rfl rfl rfl (by decide +kernel) ⟨Nat.le_of_ble_eq_true rfl, Nat.le_of_ble_eq_true rfl⟩) hP hK [] rfl rfl hl.1 rfl (Nat.le_of_ble_eq_true rfl) dX4_ofBoy_69 ⟨Nat.zero_le _, Nat.zero_le _⟩ ?_
          refine W.eq (g2 := F0 m 72 ls [.int (lrn (K jb))]) rfl ?_
          exact hret _ _ _ (by first | with_reducible rfl | simp only [s_ofBoy, iF_t c1, iF_f c2, iF_f c3, iF_t c4, tn_nI (show jb < 2 ^ 31 by omega)]) dX4_ofBoy_72
        ·
          refine lv_tableOut (tgt := 73) hx hb dX4_ofBoy_14 (sw_out3 c2 c3 c4) (by decide) ?_
          refine lv_bipush (v := (-2)) hx hb dX4_ofBoy_73 (by decide) ?_
          exact hret _ _ _ (by first | with_reducible rfl | simp only [s_ofBoy, iF_t c1, iF_f c2, iF_f c3, iF_f c4, tn_nI (show jb < 2 ^ 31 by omega)]) dX4_ofBoy_75
  ·
    refine lv_iconst (v := (-1)) hx hb dX4_ofBoy_11 (by decide) ?_
    exact hret _ _ _ (by first | with_reducible rfl | simp only [s_ofBoy, iF_f c1]) dX4_ofBoy_12

theorem ixX4_owes_X4 : ∀ w ∈ wsX40, w ∈ wsX4_owes := fun _ h => List.mem_cons_of_mem _ (List.mem_append_left _ (List.mem_append_right _ h))
theorem lkX4_owes_12 : Cond.fieldLink RX4 12 (TX4 0).1 (TX4 0).2.1 (TX4 0).2.2.1 ∈ wsX4_owes := List.mem_of_getElem? (i := 1) rfl
set_option maxHeartbeats 4000000 in
set_option maxRecDepth 100000 in
theorem kX4_owes (l : Launch) (G : Gl) (x : Nat) (st : Nat) (tr : Nat) (ra : Nat) (sa : Nat) (R : Nat) (tc : Int32) (fl : Int32) (ap : Nat) (ak : Nat) (ao : Nat) (M : Nat) (B : Nat) (P : Nat → Int32) (a : Int32) (b : Int32) (hM : M ≤ 5) : Rd l G yX4_owes wsX4_owes ({ frames := 1, cells := 0, slots := 0, locals := 22 } : Room) [.ref x, .int a, .int b] [(x, .inr (4, [.ref st, .ref tr, .ref ra, .int (nI R), .ref sa, .int tc, .int fl])), (st, .inr (2, [.ref ap, .ref ak, .ref ao, .int (nI M), .int (nI B)])), (ap, aI G 25 P)] (some (.int (s_owes M P a b))) := by
  refine Rd.ofI (cc := cX4_owes) (maxL := 3) (by decide) rfl (Nat.le_of_ble_eq_true rfl) ?_
  intro p e s m below meth c Q ls hE hP hK hl hret
  obtain ⟨hx, hb, hml, hown, hts⟩ := id hE
  have hl : lv_has ls 3 [(0, .ref x), (1, .int a), (2, .int b)] := hl
  refine lv_aload_n hx hb dX4_owes_0 rfl (lv_at hl 0 rfl) ?_
  refine g_get (v := .ref st) hx hb hts ixX4_owes_X4 hown hK hP 0 rfl rfl 0 (by decide) lkX4_owes_12 rfl dX4_owes_1 ?_
  refine lv_iload_n hx hb dX4_owes_4 rfl (lv_at hl 1 rfl) ?_
  refine rdV (As := [.int a]) (rest := []) (ci := 2) (q0 := 1) hE (kX2_hasMaster l G st ap ak ao M B a hM) (cwV 1 hts gX4_owes_X2_hasMaster rfl rfl rfl (by decide +kernel) ⟨Nat.le_of_ble_eq_true rfl, Nat.le_of_ble_eq_true rfl⟩) hP hK [1] rfl rfl rfl rfl hl.1 rfl (Nat.le_of_ble_eq_true rfl) dX4_owes_5 ⟨Nat.zero_le _, Nat.zero_le _⟩ ?_
  refine W.eq (g2 := F0 m 8 ls [.int (bI (vp_in a M))]) rfl ?_
  refine bz_eq (tgt := 22) hx hb dX4_owes_8 (by decide) (fun c1 => ?_) (fun c1 => ?_)
  ·
    refine lv_iconst (v := (-1)) hx hb dX4_owes_22 (by decide) ?_
    exact hret _ _ _ (by first | with_reducible rfl | simp only [s_owes, iF_f c1]) dX4_owes_23
  ·
    obtain ⟨ja, hja, rfl⟩ := vp_in_of c1 (by omega)
    refine lv_aload_n hx hb dX4_owes_11 rfl (lv_at hl 0 rfl) ?_
    refine g_get (v := .ref st) hx hb hts ixX4_owes_X4 hown hK hP 0 rfl rfl 0 (by decide) lkX4_owes_12 rfl dX4_owes_12 ?_
    refine lv_iload_n hx hb dX4_owes_15 rfl (lv_at hl 2 rfl) ?_
    refine rdV (As := [.int b]) (rest := []) (ci := 2) (q0 := 1) hE (kX2_hasMaster l G st ap ak ao M B b hM) (cwV 1 hts gX4_owes_X2_hasMaster rfl rfl rfl (by decide +kernel) ⟨Nat.le_of_ble_eq_true rfl, Nat.le_of_ble_eq_true rfl⟩) hP hK [1] rfl rfl rfl rfl hl.1 rfl (Nat.le_of_ble_eq_true rfl) dX4_owes_16 ⟨Nat.zero_le _, Nat.zero_le _⟩ ?_
    refine W.eq (g2 := F0 m 19 ls [.int (bI (vp_in b M))]) rfl ?_
    refine bz_ne (tgt := 24) hx hb dX4_owes_19 (by decide) (fun c2 => ?_) (fun c2 => ?_)
    ·
      obtain ⟨jb, hjb, rfl⟩ := vp_in_of c2 (by omega)
      refine lv_aload_n hx hb dX4_owes_24 rfl (lv_at hl 0 rfl) ?_
      refine g_get (v := .ref st) hx hb hts ixX4_owes_X4 hown hK hP 0 rfl rfl 0 (by decide) lkX4_owes_12 rfl dX4_owes_25 ?_
      refine lv_iload_n hx hb dX4_owes_28 rfl (lv_at hl 1 rfl) ?_
      refine lv_iload_n hx hb dX4_owes_29 rfl (lv_at hl 2 rfl) ?_
      refine rdV (As := [.int (nI ja), .int (nI jb)]) (rest := []) (ci := 2) (q0 := 1) hE (kX2_debt l G st ap ak ao M B P ja jb (by first | omega | assumption)) (cwV 2 hts gX4_owes_X2_debt rfl rfl rfl (by decide +kernel) ⟨Nat.le_of_ble_eq_true rfl, Nat.le_of_ble_eq_true rfl⟩) hP hK [1, 2] rfl rfl rfl rfl hl.1 rfl (Nat.le_of_ble_eq_true rfl) dX4_owes_30 ⟨Nat.zero_le _, Nat.zero_le _⟩ ?_
      refine W.eq (g2 := F0 m 33 ls [.int (P (ja * 5 + jb))]) rfl ?_
      exact hret _ _ _ (by first | with_reducible rfl | simp only [s_owes, iF_t c1, iF_t c2, tn_nI (show ja < 2 ^ 31 by omega), tn_nI (show jb < 2 ^ 31 by omega)]) dX4_owes_33
    ·
      refine lv_iconst (v := (-1)) hx hb dX4_owes_22 (by decide) ?_
      exact hret _ _ _ (by first | with_reducible rfl | simp only [s_owes, iF_t c1, iF_f c2, tn_nI (show ja < 2 ^ 31 by omega)]) dX4_owes_23

theorem ixX4_owe_X4 : ∀ w ∈ wsX40, w ∈ wsX4_owe := fun _ h => List.mem_cons_of_mem _ (List.mem_append_left _ (List.mem_append_right _ h))
theorem lkX4_owe_12 : Cond.fieldLink RX4 12 (TX4 0).1 (TX4 0).2.1 (TX4 0).2.2.1 ∈ wsX4_owe := List.mem_of_getElem? (i := 1) rfl
set_option maxHeartbeats 4000000 in
set_option maxRecDepth 100000 in
theorem kX4_owe (l : Launch) (G : Gl) (x : Nat) (st : Nat) (tr : Nat) (ra : Nat) (sa : Nat) (R : Nat) (tc : Int32) (fl : Int32) (ap : Nat) (ak : Nat) (ao : Nat) (M : Nat) (B : Nat) (P : Nat → Int32) (a : Int32) (b : Int32) (v : Int32) (hM : M ≤ 5) : Wt l G yX4_owe wsX4_owe ({ frames := 2, cells := 0, slots := 0, locals := 43 } : Room) [.ref x, .int a, .int b, .int v] [(x, .inr (4, [.ref st, .ref tr, .ref ra, .int (nI R), .ref sa, .int tc, .int fl])), (st, .inr (2, [.ref ap, .ref ak, .ref ao, .int (nI M), .int (nI B)])), (ap, aI G 25 P)] [(x, .inr (4, [.ref st, .ref tr, .ref ra, .int (nI R), .ref sa, .int tc, .int fl])), (st, .inr (2, [.ref ap, .ref ak, .ref ao, .int (nI M), .int (nI B)])), (ap, aI G 25 (w_owe M P a b v))] (some (.int (s_owe M P a b v))) := by
  refine Wt.ofI (cc := cX4_owe) (maxL := 5) (by decide) rfl (Nat.le_of_ble_eq_true rfl) ?_
  intro p e s m below meth c Q A ls hE hP hK hD hS hl hret
  obtain ⟨hx, hb, hml, hown, hts⟩ := id hE
  have hl : lv_has ls 5 [(0, .ref x), (1, .int a), (2, .int b), (3, .int v)] := hl
  refine lv_aload_n hx hb dX4_owe_0 rfl (lv_at hl 0 rfl) ?_
  refine g_get (v := .ref st) hx hb hts ixX4_owe_X4 hown hK hP 0 rfl rfl 0 (by decide) lkX4_owe_12 rfl dX4_owe_1 ?_
  refine lv_iload_n hx hb dX4_owe_4 rfl (lv_at hl 1 rfl) ?_
  refine lv_iload_n hx hb dX4_owe_5 rfl (lv_at hl 2 rfl) ?_
  refine rdV (As := [.int a, .int b]) (rest := []) (ci := 2) (q0 := 1) hE (kX2_hasDebt l G st ap ak ao M B a b hM) (cwV 2 hts gX4_owe_X2_hasDebt rfl rfl rfl (by decide +kernel) ⟨Nat.le_of_ble_eq_true rfl, Nat.le_of_ble_eq_true rfl⟩) hP hK [1] rfl rfl rfl rfl hl.1 rfl (Nat.le_of_ble_eq_true rfl) dX4_owe_6 ⟨Nat.zero_le _, Nat.zero_le _⟩ ?_
  refine W.eq (g2 := F0 m 9 ls [.int (bI (hd M a b))]) rfl ?_
  refine bz_ne (tgt := 14) hx hb dX4_owe_9 (by decide) (fun c1 => ?_) (fun c1 => ?_)
  ·
    have c10 := c1
    obtain ⟨ha9, hb9, hne9⟩ := c10
    obtain ⟨ja, hja, rfl⟩ := vp_in_of ha9 (by omega)
    obtain ⟨jb, hjb, rfl⟩ := vp_in_of hb9 (by omega)
    refine lv_iload_n hx hb dX4_owe_14 rfl (lv_at hl 3 rfl) ?_
    refine lv_bipush (v := nI 9) hx hb dX4_owe_15 (by decide) ?_
    refine rdS (As := [.int v, .int (nI 9)]) (rest := []) hE (kX4_isWithin l G v 9 (by first | omega | assumption)) (va_cwS 2 hts gX4_owe_X4_isWithin rfl rfl rfl (by decide +kernel) ⟨Nat.le_of_ble_eq_true rfl, Nat.le_of_ble_eq_true rfl⟩) hP hK [] rfl rfl hl.1 rfl (Nat.le_of_ble_eq_true rfl) dX4_owe_17 ⟨Nat.zero_le _, Nat.zero_le _⟩ ?_
    refine W.eq (g2 := F0 m 20 ls [.int (bI (vp_in v (9 + 1)))]) rfl ?_
    refine bz_ne (tgt := 26) hx hb dX4_owe_20 (by decide) (fun c2 => ?_) (fun c2 => ?_)
    ·
      refine lv_aload_n hx hb dX4_owe_26 rfl (lv_at hl 0 rfl) ?_
      refine g_get (v := .ref st) hx hb hts ixX4_owe_X4 hown hK hP 0 rfl rfl 0 (by decide) lkX4_owe_12 rfl dX4_owe_27 ?_
      refine lv_iload_n hx hb dX4_owe_30 rfl (lv_at hl 1 rfl) ?_
      refine lv_iload_n hx hb dX4_owe_31 rfl (lv_at hl 2 rfl) ?_
      refine rdV (As := [.int (nI ja), .int (nI jb)]) (rest := []) (ci := 2) (q0 := 1) hE (kX2_debt l G st ap ak ao M B P ja jb (by first | omega | assumption)) (cwV 2 hts gX4_owe_X2_debt rfl rfl rfl (by decide +kernel) ⟨Nat.le_of_ble_eq_true rfl, Nat.le_of_ble_eq_true rfl⟩) hP hK [1, 2] rfl rfl rfl rfl hl.1 rfl (Nat.le_of_ble_eq_true rfl) dX4_owe_32 ⟨Nat.zero_le _, Nat.zero_le _⟩ ?_
      refine W.eq (g2 := F0 m 35 ls [.int (P (ja * 5 + jb))]) rfl ?_
      refine lv_istore (lv' := [(4, .int (P (ja * 5 + jb))), (0, .ref x), (1, .int (nI ja)), (2, .int (nI jb)), (3, .int v)]) hx hb dX4_owe_35 hl (by decide) rfl (fun ls hl => ?_)
      refine lv_aload_n hx hb dX4_owe_37 rfl (lv_at hl 1 rfl) ?_
      refine g_get (v := .ref st) hx hb hts ixX4_owe_X4 hown hK hP 0 rfl rfl 0 (by decide) lkX4_owe_12 rfl dX4_owe_38 ?_
      refine lv_iload_n hx hb dX4_owe_41 rfl (lv_at hl 2 rfl) ?_
      refine lv_iload_n hx hb dX4_owe_42 rfl (lv_at hl 3 rfl) ?_
      refine lv_iload_n hx hb dX4_owe_43 rfl (lv_at hl 4 rfl) ?_
      refine wtV (As := [.int (nI ja), .int (nI jb), .int v]) (rest := []) (ci := 2) (q0 := 1) hE (kX2_setDebt l G st ap ak ao M B P ja jb v (by first | omega | assumption)) (cwV 3 hts gX4_owe_X2_setDebt rfl rfl rfl (by decide +kernel) ⟨Nat.le_of_ble_eq_true rfl, Nat.le_of_ble_eq_true rfl⟩) hP hK hD hS [1, 2] (by decide) rfl rfl (W1 := [(x, .inr (4, [.ref st, .ref tr, .ref ra, .int (nI R), .ref sa, .int tc, .int fl])), (st, .inr (2, [.ref ap, .ref ak, .ref ao, .int (nI M), .int (nI B)])), (ap, aI G 25 (upd P (ja * 5 + jb) v))]) rfl rfl rfl rfl hl.1 rfl (Nat.le_of_ble_eq_true rfl) dX4_owe_44 ⟨Nat.zero_le _, Nat.zero_le _⟩ (fun H locs hP hD hS => ?_)
      refine W.eq (g2 := F0 m 47 ls []) rfl ?_
      refine lv_iload hx hb dX4_owe_47 (lv_at hl 0 rfl) ?_
      exact hret _ _ _ _ _ (by first | with_reducible rfl | simp only [s_owe, w_owe, iF_t c1, iF_t c2, tn_nI (show ja < 2 ^ 31 by omega), tn_nI (show jb < 2 ^ 31 by omega)]) (by first | exact hP | (simp only [s_owe, w_owe, iF_t c1, iF_t c2, tn_nI (show ja < 2 ^ 31 by omega), tn_nI (show jb < 2 ^ 31 by omega)]; exact hP)) hS dX4_owe_49
    ·
      refine lv_bipush (v := (-2)) hx hb dX4_owe_23 (by decide) ?_
      exact hret _ _ _ _ _ (by first | with_reducible rfl | simp only [s_owe, w_owe, iF_t c1, iF_f c2, tn_nI (show ja < 2 ^ 31 by omega), tn_nI (show jb < 2 ^ 31 by omega)]) (by first | exact hP | (simp only [s_owe, w_owe, iF_t c1, iF_f c2, tn_nI (show ja < 2 ^ 31 by omega), tn_nI (show jb < 2 ^ 31 by omega)]; exact hP)) hS dX4_owe_25
  ·
    refine lv_iconst (v := (-1)) hx hb dX4_owe_12 (by decide) ?_
    exact hret _ _ _ _ _ (by first | with_reducible rfl | simp only [s_owe, w_owe, iF_f c1]) (by first | exact hP | (simp only [s_owe, w_owe, iF_f c1]; exact hP)) hS dX4_owe_13

theorem ixX4_bind_X4 : ∀ w ∈ wsX40, w ∈ wsX4_bind := fun _ h => List.mem_cons_of_mem _ (List.mem_append_left _ (List.mem_append_right _ h))
theorem lkX4_bind_12 : Cond.fieldLink RX4 12 (TX4 0).1 (TX4 0).2.1 (TX4 0).2.2.1 ∈ wsX4_bind := List.mem_of_getElem? (i := 1) rfl
theorem ixX4_bind_X2 : ∀ w ∈ wsX20, w ∈ wsX4_bind := fun _ h => List.mem_cons_of_mem _ (List.mem_append_right _ h)
set_option maxHeartbeats 4000000 in
set_option maxRecDepth 100000 in
theorem kX4_bind (l : Launch) (G : Gl) (x : Nat) (st : Nat) (tr : Nat) (ra : Nat) (sa : Nat) (R : Nat) (tc : Int32) (fl : Int32) (ap : Nat) (ak : Nat) (ao : Nat) (M : Nat) (B : Nat) (U : Nat → Int32) (b : Int32) (m0 : Int32) (hM : M ≤ 5) (hB : B ≤ 4) : Wt l G yX4_bind wsX4_bind ({ frames := 1, cells := 0, slots := 0, locals := 21 } : Room) [.ref x, .int b, .int m0] [(x, .inr (4, [.ref st, .ref tr, .ref ra, .int (nI R), .ref sa, .int tc, .int fl])), (st, .inr (2, [.ref ap, .ref ak, .ref ao, .int (nI M), .int (nI B)])), (ao, aI G 4 U)] [(x, .inr (4, [.ref st, .ref tr, .ref ra, .int (nI R), .ref sa, .int tc, .int fl])), (st, .inr (2, [.ref ap, .ref ak, .ref ao, .int (nI M), .int (nI B)])), (ao, aI G 4 (w_bind B M U b m0))] (some (.int (s_bind B M U b m0))) := by
  refine Wt.ofI (cc := cX4_bind) (maxL := 4) (by decide) rfl (Nat.le_of_ble_eq_true rfl) ?_
  intro p e s m below meth c Q A ls hE hP hK hD hS hl hret
  obtain ⟨hx, hb, hml, hown, hts⟩ := id hE
  have hl : lv_has ls 4 [(0, .ref x), (1, .int b), (2, .int m0)] := hl
  refine lv_aload_n hx hb dX4_bind_0 rfl (lv_at hl 0 rfl) ?_
  refine g_get (v := .ref st) hx hb hts ixX4_bind_X4 hown hK hP 0 rfl rfl 0 (by decide) lkX4_bind_12 rfl dX4_bind_1 ?_
  refine lv_iload_n hx hb dX4_bind_4 rfl (lv_at hl 1 rfl) ?_
  refine rdV (As := [.int b]) (rest := []) (ci := 2) (q0 := 1) hE (kX2_hasBoy l G st ap ak ao M B b hB) (cwV 1 hts gX4_bind_X2_hasBoy rfl rfl rfl (by decide +kernel) ⟨Nat.le_of_ble_eq_true rfl, Nat.le_of_ble_eq_true rfl⟩) hP hK [1] rfl rfl rfl rfl hl.1 rfl (Nat.le_of_ble_eq_true rfl) dX4_bind_5 ⟨Nat.zero_le _, Nat.zero_le _⟩ ?_
  refine W.eq (g2 := F0 m 8 ls [.int (bI (vp_in b B))]) rfl ?_
  refine bz_eq (tgt := 22) hx hb dX4_bind_8 (by decide) (fun c1 => ?_) (fun c1 => ?_)
  ·
    refine lv_iconst (v := (-1)) hx hb dX4_bind_22 (by decide) ?_
    exact hret _ _ _ _ _ (by first | with_reducible rfl | simp only [s_bind, w_bind, iF_f c1]) (by first | exact hP | (simp only [s_bind, w_bind, iF_f c1]; exact hP)) hS dX4_bind_23
  ·
    obtain ⟨jb, hjb, rfl⟩ := vp_in_of c1 (by omega)
    refine lv_aload_n hx hb dX4_bind_11 rfl (lv_at hl 0 rfl) ?_
    refine g_get (v := .ref st) hx hb hts ixX4_bind_X4 hown hK hP 0 rfl rfl 0 (by decide) lkX4_bind_12 rfl dX4_bind_12 ?_
    refine lv_iload_n hx hb dX4_bind_15 rfl (lv_at hl 2 rfl) ?_
    refine rdV (As := [.int m0]) (rest := []) (ci := 2) (q0 := 1) hE (kX2_hasMaster l G st ap ak ao M B m0 hM) (cwV 1 hts gX4_bind_X2_hasMaster rfl rfl rfl (by decide +kernel) ⟨Nat.le_of_ble_eq_true rfl, Nat.le_of_ble_eq_true rfl⟩) hP hK [1] rfl rfl rfl rfl hl.1 rfl (Nat.le_of_ble_eq_true rfl) dX4_bind_16 ⟨Nat.zero_le _, Nat.zero_le _⟩ ?_
    refine W.eq (g2 := F0 m 19 ls [.int (bI (vp_in m0 M))]) rfl ?_
    refine bz_ne (tgt := 24) hx hb dX4_bind_19 (by decide) (fun c2 => ?_) (fun c2 => ?_)
    ·
      refine lv_aload_n hx hb dX4_bind_24 rfl (lv_at hl 0 rfl) ?_
      refine g_get (v := .ref st) hx hb hts ixX4_bind_X4 hown hK hP 0 rfl rfl 0 (by decide) lkX4_bind_12 rfl dX4_bind_25 ?_
      refine g_getN (v := .ref ao) hx hb hts ixX4_bind_X2 hown hK hP 1 rfl rfl 2 (by decide) nkX4_86 rfl dX4_bind_28 ?_
      refine lv_iload_n hx hb dX4_bind_31 rfl (lv_at hl 1 rfl) ?_
      refine n_ald hx hb hK hP 2 rfl (k := jb) (by omega) (by decide) dX4_bind_32 ?_
      refine lv_istore_n (lv' := [(3, .int (U jb)), (0, .ref x), (1, .int (nI jb)), (2, .int m0)]) hx hb dX4_bind_33 rfl hl (by decide) rfl (fun ls hl => ?_)
      refine lv_aload_n hx hb dX4_bind_34 rfl (lv_at hl 1 rfl) ?_
      refine g_get (v := .ref st) hx hb hts ixX4_bind_X4 hown hK hP 0 rfl rfl 0 (by decide) lkX4_bind_12 rfl dX4_bind_35 ?_
      refine g_getN (v := .ref ao) hx hb hts ixX4_bind_X2 hown hK hP 1 rfl rfl 2 (by decide) nkX4_86 rfl dX4_bind_38 ?_
      refine lv_iload_n hx hb dX4_bind_41 rfl (lv_at hl 2 rfl) ?_
      refine lv_iload_n hx hb dX4_bind_42 rfl (lv_at hl 3 rfl) ?_
      refine n_ast hx hb hK hP hD hS 2 rfl (k := jb) (by omega) (by decide) dX4_bind_43 (fun H locs hP hD hS => ?_)
      have hP : va_P G.1 vwCl [(x, .inr (4, [.ref st, .ref tr, .ref ra, .int (nI R), .ref sa, .int tc, .int fl])), (st, .inr (2, [.ref ap, .ref ak, .ref ao, .int (nI M), .int (nI B)])), (ao, aI G 4 (upd U jb m0))] H := hP
      have hD : va_D A [(x, .inr (4, [.ref st, .ref tr, .ref ra, .int (nI R), .ref sa, .int tc, .int fl])), (st, .inr (2, [.ref ap, .ref ak, .ref ao, .int (nI M), .int (nI B)])), (ao, aI G 4 (upd U jb m0))] := hD
      refine lv_iload_n hx hb dX4_bind_44 rfl (lv_at hl 0 rfl) ?_
      exact hret _ _ _ _ _ (by first | with_reducible rfl | simp only [s_bind, w_bind, iF_t c1, iF_t c2, tn_nI (show jb < 2 ^ 31 by omega)]) (by first | exact hP | (simp only [s_bind, w_bind, iF_t c1, iF_t c2, tn_nI (show jb < 2 ^ 31 by omega)]; exact hP)) hS dX4_bind_45
    ·
      refine lv_iconst (v := (-1)) hx hb dX4_bind_22 (by decide) ?_
      exact hret _ _ _ _ _ (by first | with_reducible rfl | simp only [s_bind, w_bind, iF_t c1, iF_f c2, tn_nI (show jb < 2 ^ 31 by omega)]) (by first | exact hP | (simp only [s_bind, w_bind, iF_t c1, iF_f c2, tn_nI (show jb < 2 ^ 31 by omega)]; exact hP)) hS dX4_bind_23

theorem ixX4_next_X4 : ∀ w ∈ wsX40, w ∈ wsX4_next := fun _ h => List.mem_cons_of_mem _ (List.mem_append_left _ (List.mem_append_right _ h))
theorem lkX4_next_12 : Cond.fieldLink RX4 12 (TX4 0).1 (TX4 0).2.1 (TX4 0).2.2.1 ∈ wsX4_next := List.mem_of_getElem? (i := 1) rfl
set_option maxHeartbeats 4000000 in
set_option maxRecDepth 100000 in
theorem kX4_next (l : Launch) (G : Gl) (x : Nat) (st : Nat) (tr : Nat) (ra : Nat) (sa : Nat) (R : Nat) (tc : Int32) (fl : Int32) (ap : Nat) (ak : Nat) (ao : Nat) (M : Nat) (B : Nat) (P : Nat → Int32) (m0 : Int32) (hM : M ≤ 5) (hz : ∀ j, j < M → P (j * 5 + j) = nI 0) : Rd l G yX4_next wsX4_next ({ frames := 2, cells := 0, slots := 0, locals := 46 } : Room) [.ref x, .int m0] [(x, .inr (4, [.ref st, .ref tr, .ref ra, .int (nI R), .ref sa, .int tc, .int fl])), (st, .inr (2, [.ref ap, .ref ak, .ref ao, .int (nI M), .int (nI B)])), (ap, aI G 25 P)] (some (.int (s_next M P m0))) := by
  refine Rd.ofI (cc := cX4_next) (maxL := 2) (by decide) rfl (Nat.le_of_ble_eq_true rfl) ?_
  intro p e s m below meth c Q ls hE hP hK hl hret
  obtain ⟨hx, hb, hml, hown, hts⟩ := id hE
  have hl : lv_has ls 2 [(0, .ref x), (1, .int m0)] := hl
  refine lv_aload_n hx hb dX4_next_0 rfl (lv_at hl 0 rfl) ?_
  refine g_get (v := .ref st) hx hb hts ixX4_next_X4 hown hK hP 0 rfl rfl 0 (by decide) lkX4_next_12 rfl dX4_next_1 ?_
  refine lv_iload_n hx hb dX4_next_4 rfl (lv_at hl 1 rfl) ?_
  refine rdV (As := [.int m0]) (rest := []) (ci := 2) (q0 := 1) hE (kX2_hasMaster l G st ap ak ao M B m0 hM) (cwV 1 hts gX4_next_X2_hasMaster rfl rfl rfl (by decide +kernel) ⟨Nat.le_of_ble_eq_true rfl, Nat.le_of_ble_eq_true rfl⟩) hP hK [1] rfl rfl rfl rfl hl.1 rfl (Nat.le_of_ble_eq_true rfl) dX4_next_5 ⟨Nat.zero_le _, Nat.zero_le _⟩ ?_
  refine W.eq (g2 := F0 m 8 ls [.int (bI (vp_in m0 M))]) rfl ?_
  refine bz_ne (tgt := 13) hx hb dX4_next_8 (by decide) (fun c1 => ?_) (fun c1 => ?_)
  ·
    obtain ⟨jm0, hjm0, rfl⟩ := vp_in_of c1 (by omega)
    refine lv_aload_n hx hb dX4_next_13 rfl (lv_at hl 0 rfl) ?_
    refine g_get (v := .ref st) hx hb hts ixX4_next_X4 hown hK hP 0 rfl rfl 0 (by decide) lkX4_next_12 rfl dX4_next_14 ?_
    refine lv_iload_n hx hb dX4_next_17 rfl (lv_at hl 1 rfl) ?_
    refine rdV (As := [.int (nI jm0)]) (rest := []) (ci := 2) (q0 := 1) hE (kX2_nextOf l G st ap ak ao M B P jm0 hM hjm0 (by first | omega | assumption | exact hU _ (by omega) | exact hz _ (by omega))) (cwV 1 hts gX4_next_X2_nextOf rfl rfl rfl (by decide +kernel) ⟨Nat.le_of_ble_eq_true rfl, Nat.le_of_ble_eq_true rfl⟩) hP hK [1, 2] rfl rfl rfl rfl hl.1 rfl (Nat.le_of_ble_eq_true rfl) dX4_next_18 ⟨Nat.zero_le _, Nat.zero_le _⟩ ?_
    refine W.eq (g2 := F0 m 21 ls [.int (nI (nxt P M jm0))]) rfl ?_
    exact hret _ _ _ (by first | with_reducible rfl | simp only [s_next, iF_t c1, tn_nI (show jm0 < 2 ^ 31 by omega)]) dX4_next_21
  ·
    refine lv_iconst (v := (-1)) hx hb dX4_next_11 (by decide) ?_
    exact hret _ _ _ (by first | with_reducible rfl | simp only [s_next, iF_f c1]) dX4_next_12

theorem ixX4_where_X4 : ∀ w ∈ wsX40, w ∈ wsX4_where := fun _ h => List.mem_cons_of_mem _ (List.mem_append_left _ (List.mem_append_right _ h))
theorem lkX4_where_12 : Cond.fieldLink RX4 12 (TX4 0).1 (TX4 0).2.1 (TX4 0).2.2.1 ∈ wsX4_where := List.mem_of_getElem? (i := 1) rfl
set_option maxHeartbeats 4000000 in
set_option maxRecDepth 100000 in
theorem kX4_where (l : Launch) (G : Gl) (x : Nat) (st : Nat) (tr : Nat) (ra : Nat) (sa : Nat) (R : Nat) (tc : Int32) (fl : Int32) (ap : Nat) (ak : Nat) (ao : Nat) (M : Nat) (B : Nat) (P : Nat → Int32) (U : Nat → Int32) (b : Int32) (n : Int32) (hM : M ≤ 5) (hB : B ≤ 4) (hz : ∀ j, j < M → P (j * 5 + j) = nI 0) (hU : ∀ b, b < B → vp_in (U b) M) : Rd l G yX4_where wsX4_where ({ frames := 4, cells := 0, slots := 0, locals := 92 } : Room) [.ref x, .int b, .int n] [(x, .inr (4, [.ref st, .ref tr, .ref ra, .int (nI R), .ref sa, .int tc, .int fl])), (st, .inr (2, [.ref ap, .ref ak, .ref ao, .int (nI M), .int (nI B)])), (ap, aI G 25 P), (ao, aI G 4 U)] (some (.int (s_where B M P U b n))) := by
  refine Rd.ofI (cc := cX4_where) (maxL := 3) (by decide) rfl (Nat.le_of_ble_eq_true rfl) ?_
  intro p e s m below meth c Q ls hE hP hK hl hret
  obtain ⟨hx, hb, hml, hown, hts⟩ := id hE
  have hl : lv_has ls 3 [(0, .ref x), (1, .int b), (2, .int n)] := hl
  refine lv_aload_n hx hb dX4_where_0 rfl (lv_at hl 0 rfl) ?_
  refine g_get (v := .ref st) hx hb hts ixX4_where_X4 hown hK hP 0 rfl rfl 0 (by decide) lkX4_where_12 rfl dX4_where_1 ?_
  refine lv_iload_n hx hb dX4_where_4 rfl (lv_at hl 1 rfl) ?_
  refine rdV (As := [.int b]) (rest := []) (ci := 2) (q0 := 1) hE (kX2_hasBoy l G st ap ak ao M B b hB) (cwV 1 hts gX4_where_X2_hasBoy rfl rfl rfl (by decide +kernel) ⟨Nat.le_of_ble_eq_true rfl, Nat.le_of_ble_eq_true rfl⟩) hP hK [1] rfl rfl rfl rfl hl.1 rfl (Nat.le_of_ble_eq_true rfl) dX4_where_5 ⟨Nat.zero_le _, Nat.zero_le _⟩ ?_
  refine W.eq (g2 := F0 m 8 ls [.int (bI (vp_in b B))]) rfl ?_
  refine bz_ne (tgt := 13) hx hb dX4_where_8 (by decide) (fun c1 => ?_) (fun c1 => ?_)
  ·
    obtain ⟨jb, hjb, rfl⟩ := vp_in_of c1 (by omega)
    refine lv_iload_n hx hb dX4_where_13 rfl (lv_at hl 2 rfl) ?_
    refine lv_bipush (v := nI 60) hx hb dX4_where_14 (by decide) ?_
    refine rdS (As := [.int n, .int (nI 60)]) (rest := []) hE (kX4_isWithin l G n 60 (by first | omega | assumption | exact hU _ (by omega) | exact hz _ (by omega))) (va_cwS 2 hts gX4_where_X4_isWithin rfl rfl rfl (by decide +kernel) ⟨Nat.le_of_ble_eq_true rfl, Nat.le_of_ble_eq_true rfl⟩) hP hK [] rfl rfl hl.1 rfl (Nat.le_of_ble_eq_true rfl) dX4_where_16 ⟨Nat.zero_le _, Nat.zero_le _⟩ ?_
    refine W.eq (g2 := F0 m 19 ls [.int (bI (vp_in n (60 + 1)))]) rfl ?_
    refine bz_ne (tgt := 25) hx hb dX4_where_19 (by decide) (fun c2 => ?_) (fun c2 => ?_)
    ·
      obtain ⟨jn, hjn, rfl⟩ := vp_in_of c2 (by omega)
      refine lv_aload_n hx hb dX4_where_25 rfl (lv_at hl 0 rfl) ?_
      refine g_get (v := .ref st) hx hb hts ixX4_where_X4 hown hK hP 0 rfl rfl 0 (by decide) lkX4_where_12 rfl dX4_where_26 ?_
      refine lv_iload_n hx hb dX4_where_29 rfl (lv_at hl 1 rfl) ?_
      refine lv_iload_n hx hb dX4_where_30 rfl (lv_at hl 2 rfl) ?_
      refine rdV (As := [.int (nI jb), .int (nI jn)]) (rest := []) (ci := 2) (q0 := 1) hE (kX2_masterBehind l G st ap ak ao M B P U jb jn hM (by first | omega | assumption | exact hU _ (by omega) | exact hz _ (by omega)) (by first | omega | assumption | exact hU _ (by omega) | exact hz _ (by omega)) (by first | omega | assumption | exact hU _ (by omega) | exact hz _ (by omega)) hz) (cwV 2 hts gX4_where_X2_masterBehind rfl rfl rfl (by decide +kernel) ⟨Nat.le_of_ble_eq_true rfl, Nat.le_of_ble_eq_true rfl⟩) hP hK [1, 2, 3] rfl rfl rfl rfl hl.1 rfl (Nat.le_of_ble_eq_true rfl) dX4_where_31 ⟨Nat.zero_le _, Nat.zero_le _⟩ ?_
      refine W.eq (g2 := F0 m 34 ls [.int (nI (wh P M (tn (U jb)) jn))]) rfl ?_
      exact hret _ _ _ (by first | with_reducible rfl | simp only [s_where, iF_t c1, iF_t c2, tn_nI (show jb < 2 ^ 31 by omega), tn_nI (show jn < 2 ^ 31 by omega)]) dX4_where_34
    ·
      refine lv_bipush (v := (-2)) hx hb dX4_where_22 (by decide) ?_
      exact hret _ _ _ (by first | with_reducible rfl | simp only [s_where, iF_t c1, iF_f c2, tn_nI (show jb < 2 ^ 31 by omega)]) dX4_where_24
  ·
    refine lv_iconst (v := (-1)) hx hb dX4_where_11 (by decide) ?_
    exact hret _ _ _ (by first | with_reducible rfl | simp only [s_where, iF_f c1]) dX4_where_12

theorem ixX4_knows_X4 : ∀ w ∈ wsX40, w ∈ wsX4_knows := fun _ h => List.mem_cons_of_mem _ (List.mem_append_left _ (List.mem_append_right _ h))
theorem lkX4_knows_12 : Cond.fieldLink RX4 12 (TX4 0).1 (TX4 0).2.1 (TX4 0).2.2.1 ∈ wsX4_knows := List.mem_of_getElem? (i := 1) rfl
set_option maxHeartbeats 4000000 in
set_option maxRecDepth 100000 in
theorem kX4_knows (l : Launch) (G : Gl) (x : Nat) (st : Nat) (tr : Nat) (ra : Nat) (sa : Nat) (R : Nat) (tc : Int32) (fl : Int32) (ap : Nat) (ak : Nat) (ao : Nat) (M : Nat) (B : Nat) (P : Nat → Int32) (K : Nat → Int32) (U : Nat → Int32) (b : Int32) (m0 : Int32) (n : Int32) (hM : M ≤ 5) (hB : B ≤ 4) (hz : ∀ j, j < M → P (j * 5 + j) = nI 0) (hU : ∀ b, b < B → vp_in (U b) M) : Rd l G yX4_knows wsX4_knows ({ frames := 3, cells := 0, slots := 0, locals := 72 } : Room) [.ref x, .int b, .int m0, .int n] [(x, .inr (4, [.ref st, .ref tr, .ref ra, .int (nI R), .ref sa, .int tc, .int fl])), (st, .inr (2, [.ref ap, .ref ak, .ref ao, .int (nI M), .int (nI B)])), (ap, aI G 25 P), (ak, aI G 4 K), (ao, aI G 4 U)] (some (.int (s_knows B M P K U b m0 n))) := by
  refine Rd.ofI (cc := cX4_knows) (maxL := 4) (by decide) rfl (Nat.le_of_ble_eq_true rfl) ?_
  intro p e s m below meth c Q ls hE hP hK hl hret
  obtain ⟨hx, hb, hml, hown, hts⟩ := id hE
  have hl : lv_has ls 4 [(0, .ref x), (1, .int b), (2, .int m0), (3, .int n)] := hl
  refine lv_aload_n hx hb dX4_knows_0 rfl (lv_at hl 0 rfl) ?_
  refine g_get (v := .ref st) hx hb hts ixX4_knows_X4 hown hK hP 0 rfl rfl 0 (by decide) lkX4_knows_12 rfl dX4_knows_1 ?_
  refine lv_iload_n hx hb dX4_knows_4 rfl (lv_at hl 1 rfl) ?_
  refine rdV (As := [.int b]) (rest := []) (ci := 2) (q0 := 1) hE (kX2_hasBoy l G st ap ak ao M B b hB) (cwV 1 hts gX4_knows_X2_hasBoy rfl rfl rfl (by decide +kernel) ⟨Nat.le_of_ble_eq_true rfl, Nat.le_of_ble_eq_true rfl⟩) hP hK [1] rfl rfl rfl rfl hl.1 rfl (Nat.le_of_ble_eq_true rfl) dX4_knows_5 ⟨Nat.zero_le _, Nat.zero_le _⟩ ?_
  refine W.eq (g2 := F0 m 8 ls [.int (bI (vp_in b B))]) rfl ?_
  refine bz_eq (tgt := 22) hx hb dX4_knows_8 (by decide) (fun c1 => ?_) (fun c1 => ?_)
  ·
    refine lv_iconst (v := (-1)) hx hb dX4_knows_22 (by decide) ?_
    exact hret _ _ _ (by first | with_reducible rfl | simp only [s_knows, iF_f c1]) dX4_knows_23
  ·
    obtain ⟨jb, hjb, rfl⟩ := vp_in_of c1 (by omega)
    refine lv_aload_n hx hb dX4_knows_11 rfl (lv_at hl 0 rfl) ?_
    refine g_get (v := .ref st) hx hb hts ixX4_knows_X4 hown hK hP 0 rfl rfl 0 (by decide) lkX4_knows_12 rfl dX4_knows_12 ?_
    refine lv_iload_n hx hb dX4_knows_15 rfl (lv_at hl 2 rfl) ?_
    refine rdV (As := [.int m0]) (rest := []) (ci := 2) (q0 := 1) hE (kX2_hasMaster l G st ap ak ao M B m0 hM) (cwV 1 hts gX4_knows_X2_hasMaster rfl rfl rfl (by decide +kernel) ⟨Nat.le_of_ble_eq_true rfl, Nat.le_of_ble_eq_true rfl⟩) hP hK [1] rfl rfl rfl rfl hl.1 rfl (Nat.le_of_ble_eq_true rfl) dX4_knows_16 ⟨Nat.zero_le _, Nat.zero_le _⟩ ?_
    refine W.eq (g2 := F0 m 19 ls [.int (bI (vp_in m0 M))]) rfl ?_
    refine bz_ne (tgt := 24) hx hb dX4_knows_19 (by decide) (fun c2 => ?_) (fun c2 => ?_)
    ·
      obtain ⟨jm0, hjm0, rfl⟩ := vp_in_of c2 (by omega)
      refine lv_iload_n hx hb dX4_knows_24 rfl (lv_at hl 3 rfl) ?_
      refine lv_bipush (v := nI 60) hx hb dX4_knows_25 (by decide) ?_
      refine rdS (As := [.int n, .int (nI 60)]) (rest := []) hE (kX4_isWithin l G n 60 (by first | omega | assumption | exact hU _ (by omega) | exact hz _ (by omega))) (va_cwS 2 hts gX4_knows_X4_isWithin rfl rfl rfl (by decide +kernel) ⟨Nat.le_of_ble_eq_true rfl, Nat.le_of_ble_eq_true rfl⟩) hP hK [] rfl rfl hl.1 rfl (Nat.le_of_ble_eq_true rfl) dX4_knows_27 ⟨Nat.zero_le _, Nat.zero_le _⟩ ?_
      refine W.eq (g2 := F0 m 30 ls [.int (bI (vp_in n (60 + 1)))]) rfl ?_
      refine bz_ne (tgt := 36) hx hb dX4_knows_30 (by decide) (fun c3 => ?_) (fun c3 => ?_)
      ·
        obtain ⟨jn, hjn, rfl⟩ := vp_in_of c3 (by omega)
        refine lv_aload_n hx hb dX4_knows_36 rfl (lv_at hl 0 rfl) ?_
        refine g_get (v := .ref st) hx hb hts ixX4_knows_X4 hown hK hP 0 rfl rfl 0 (by decide) lkX4_knows_12 rfl dX4_knows_37 ?_
        refine lv_iload_n hx hb dX4_knows_40 rfl (lv_at hl 1 rfl) ?_
        refine lv_iload_n hx hb dX4_knows_41 rfl (lv_at hl 2 rfl) ?_
        refine lv_iload_n hx hb dX4_knows_42 rfl (lv_at hl 3 rfl) ?_
        refine rdV (As := [.int (nI jb), .int (nI jm0), .int (nI jn)]) (rest := []) (ci := 2) (q0 := 1) hE (kX2_knownBehind l G st ap ak ao M B P K U jb jm0 jn hM (by first | omega | assumption | exact hU _ (by omega) | exact hz _ (by omega)) (by first | omega | assumption | exact hU _ (by omega) | exact hz _ (by omega)) hjm0 (by first | omega | assumption | exact hU _ (by omega) | exact hz _ (by omega)) hz) (cwV 3 hts gX4_knows_X2_knownBehind rfl rfl rfl (by decide +kernel) ⟨Nat.le_of_ble_eq_true rfl, Nat.le_of_ble_eq_true rfl⟩) hP hK [1, 2, 3, 4] rfl rfl rfl rfl hl.1 rfl (Nat.le_of_ble_eq_true rfl) dX4_knows_43 ⟨Nat.zero_le _, Nat.zero_le _⟩ ?_
        refine W.eq (g2 := F0 m 46 ls [.int (kn P M jm0 (lrn (K jb)) (tn (U jb)) jn)]) rfl ?_
        exact hret _ _ _ (by first | with_reducible rfl | simp only [s_knows, iF_t c1, iF_t c2, iF_t c3, tn_nI (show jb < 2 ^ 31 by omega), tn_nI (show jm0 < 2 ^ 31 by omega), tn_nI (show jn < 2 ^ 31 by omega)]) dX4_knows_46
      ·
        refine lv_bipush (v := (-2)) hx hb dX4_knows_33 (by decide) ?_
        exact hret _ _ _ (by first | with_reducible rfl | simp only [s_knows, iF_t c1, iF_t c2, iF_f c3, tn_nI (show jb < 2 ^ 31 by omega), tn_nI (show jm0 < 2 ^ 31 by omega)]) dX4_knows_35
    ·
      refine lv_iconst (v := (-1)) hx hb dX4_knows_22 (by decide) ?_
      exact hret _ _ _ (by first | with_reducible rfl | simp only [s_knows, iF_t c1, iF_f c2, tn_nI (show jb < 2 ^ 31 by omega)]) dX4_knows_23

theorem ixX4_able_X4 : ∀ w ∈ wsX40, w ∈ wsX4_able := fun _ h => List.mem_cons_of_mem _ (List.mem_append_left _ (List.mem_append_right _ h))
theorem lkX4_able_12 : Cond.fieldLink RX4 12 (TX4 0).1 (TX4 0).2.1 (TX4 0).2.2.1 ∈ wsX4_able := List.mem_of_getElem? (i := 1) rfl
theorem ixX4_able_X2 : ∀ w ∈ wsX20, w ∈ wsX4_able := fun _ h => List.mem_cons_of_mem _ (List.mem_append_right _ h)
set_option maxHeartbeats 4000000 in
set_option maxRecDepth 100000 in
theorem kX4_able (l : Launch) (G : Gl) (x : Nat) (st : Nat) (tr : Nat) (ra : Nat) (sa : Nat) (R : Nat) (tc : Int32) (fl : Int32) (ap : Nat) (ak : Nat) (ao : Nat) (M : Nat) (B : Nat) (P : Nat → Int32) (K : Nat → Int32) (U : Nat → Int32) (n : Int32) (hM : M ≤ 5) (hB : B ≤ 4) (hz : ∀ j, j < M → P (j * 5 + j) = nI 0) (hU : ∀ b, b < B → vp_in (U b) M) : Rd l G yX4_able wsX4_able ({ frames := 4, cells := 0, slots := 0, locals := 92 } : Room) [.ref x, .int n] [(x, .inr (4, [.ref st, .ref tr, .ref ra, .int (nI R), .ref sa, .int tc, .int fl])), (st, .inr (2, [.ref ap, .ref ak, .ref ao, .int (nI M), .int (nI B)])), (ap, aI G 25 P), (ak, aI G 4 K), (ao, aI G 4 U)] (some (.int (s_able B M P K U n))) := by
  refine Rd.ofI (cc := cX4_able) (maxL := 5) (by decide) rfl (Nat.le_of_ble_eq_true rfl) ?_
  intro p e s m below meth c Q ls hE hP hK hl hret
  obtain ⟨hx, hb, hml, hown, hts⟩ := id hE
  have hl : lv_has ls 5 [(0, .ref x), (1, .int n)] := hl
  refine lv_iload_n hx hb dX4_able_0 rfl (lv_at hl 1 rfl) ?_
  refine lv_bipush (v := nI 60) hx hb dX4_able_1 (by decide) ?_
  refine rdS (As := [.int n, .int (nI 60)]) (rest := []) hE (kX4_isWithin l G n 60 (by first | omega | assumption | exact hU _ (by omega) | exact hz _ (by omega))) (va_cwS 2 hts gX4_able_X4_isWithin rfl rfl rfl (by decide +kernel) ⟨Nat.le_of_ble_eq_true rfl, Nat.le_of_ble_eq_true rfl⟩) hP hK [] rfl rfl hl.1 rfl (Nat.le_of_ble_eq_true rfl) dX4_able_3 ⟨Nat.zero_le _, Nat.zero_le _⟩ ?_
  refine W.eq (g2 := F0 m 6 ls [.int (bI (vp_in n (60 + 1)))]) rfl ?_
  refine bz_ne (tgt := 12) hx hb dX4_able_6 (by decide) (fun c1 => ?_) (fun c1 => ?_)
  ·
    obtain ⟨jn, hjn, rfl⟩ := vp_in_of c1 (by omega)
    refine lv_aload_n hx hb dX4_able_12 rfl (lv_at hl 0 rfl) ?_
    refine g_get (v := .ref st) hx hb hts ixX4_able_X4 hown hK hP 0 rfl rfl 0 (by decide) lkX4_able_12 rfl dX4_able_13 ?_
    refine g_getN (v := .int (nI M)) hx hb hts ixX4_able_X2 hown hK hP 1 rfl rfl 3 (by decide) nkX4_119 rfl dX4_able_16 ?_
    refine iz_ne (tgt := 25) hx hb (by omega) dX4_able_19 (by decide) (fun c2 => ?_) (fun c2 => ?_)
    ·
      refine lv_iconst (v := nI 0) hx hb dX4_able_25 (by decide) ?_
      refine lv_istore_n (lv' := [(2, .int (nI 0)), (0, .ref x), (1, .int (nI jn))]) hx hb dX4_able_26 rfl hl (by decide) rfl (fun ls hl => ?_)
      refine lv_iconst (v := nI 0) hx hb dX4_able_27 (by decide) ?_
      refine lv_istore_n (lv' := [(3, .int (nI 0)), (2, .int (nI 0)), (0, .ref x), (1, .int (nI jn))]) hx hb dX4_able_28 rfl hl (by decide) rfl (fun ls hl => ?_)
      have loop1 : ∀ (d k : Nat) (ls : Array Slot), B < k + d → k ≤ B → lv_has ls 5 [(3, .int (nI k)), (2, .int (ab P M K U jn k)), (0, .ref x), (1, .int (nI jn))] → W p l e ({ frames := 4, cells := 0, slots := 0, locals := 92 } : Room) s m ([.ref x, .int (nI jn)] : List Value).toArray below meth c s.heap [] 0 0 Q (F0 m 29 ls []) := by
        intro d
        induction d with
        | zero =>
          intro k ls h1 h2
          omega
        | succ d ih1 =>
          intro k ls hdk hbk hl
          refine lv_iload_n hx hb dX4_able_29 rfl (lv_at hl 0 rfl) ?_
          refine lv_aload_n hx hb dX4_able_30 rfl (lv_at hl 2 rfl) ?_
          refine g_get (v := .ref st) hx hb hts ixX4_able_X4 hown hK hP 0 rfl rfl 0 (by decide) lkX4_able_12 rfl dX4_able_31 ?_
          refine g_getN (v := .int (nI B)) hx hb hts ixX4_able_X2 hown hK hP 1 rfl rfl 4 (by decide) nkX4_76 rfl dX4_able_34 ?_
          refine ic_ge (tgt := 80) hx hb (by omega) (by omega) dX4_able_37 (by decide) (fun c3 => ?_) (fun c3 => ?_)
          ·
            obtain rfl : B = k := by omega
            refine lv_iload_n hx hb dX4_able_80 rfl (lv_at hl 1 rfl) ?_
            exact hret _ _ _ (by first | with_reducible rfl | simp only [s_able, iF_t c1, iF_f c2, tn_nI (show jn < 2 ^ 31 by omega)]) dX4_able_81
          ·
            refine lv_aload_n hx hb dX4_able_40 rfl (lv_at hl 2 rfl) ?_
            refine g_get (v := .ref st) hx hb hts ixX4_able_X4 hown hK hP 0 rfl rfl 0 (by decide) lkX4_able_12 rfl dX4_able_41 ?_
            refine lv_iload_n hx hb dX4_able_44 rfl (lv_at hl 0 rfl) ?_
            refine lv_iload_n hx hb dX4_able_45 rfl (lv_at hl 3 rfl) ?_
            refine rdV (As := [.int (nI k), .int (nI jn)]) (rest := []) (ci := 2) (q0 := 1) hE (kX2_masterBehind l G st ap ak ao M B P U k jn hM (by first | omega | assumption | exact hU _ (by omega) | exact hz _ (by omega)) (by first | omega | assumption | exact hU _ (by omega) | exact hz _ (by omega)) (by first | omega | assumption | exact hU _ (by omega) | exact hz _ (by omega)) hz) (cwV 2 hts gX4_able_X2_masterBehind rfl rfl rfl (by decide +kernel) ⟨Nat.le_of_ble_eq_true rfl, Nat.le_of_ble_eq_true rfl⟩) hP hK [1, 2, 4] rfl rfl rfl rfl hl.1 rfl (Nat.le_of_ble_eq_true rfl) dX4_able_46 ⟨Nat.zero_le _, Nat.zero_le _⟩ ?_
            refine W.eq (g2 := F0 m 49 ls [.int (nI (wh P M (tn (U k)) jn))]) rfl ?_
            refine lv_istore (lv' := [(4, .int (nI (wh P M (tn (U k)) jn))), (3, .int (nI k)), (2, .int (ab P M K U jn k)), (0, .ref x), (1, .int (nI jn))]) hx hb dX4_able_49 hl (by decide) rfl (fun ls hl => ?_)
            have hwl := wh_lt (P := P) (tn_lt (hU k (by omega)) (by omega)) jn
            refine lv_aload_n hx hb dX4_able_51 rfl (lv_at hl 3 rfl) ?_
            refine g_get (v := .ref st) hx hb hts ixX4_able_X4 hown hK hP 0 rfl rfl 0 (by decide) lkX4_able_12 rfl dX4_able_52 ?_
            refine lv_iload_n hx hb dX4_able_55 rfl (lv_at hl 1 rfl) ?_
            refine lv_iload hx hb dX4_able_56 (lv_at hl 0 rfl) ?_
            refine lv_iload_n hx hb dX4_able_58 rfl (lv_at hl 4 rfl) ?_
            refine rdV (As := [.int (nI k), .int (nI (wh P M (tn (U k)) jn)), .int (nI jn)]) (rest := []) (ci := 2) (q0 := 1) hE (kX2_knownBehind l G st ap ak ao M B P K U k (wh P M (tn (U k)) jn) jn hM (by first | omega | assumption | exact hU _ (by omega) | exact hz _ (by omega)) (by first | omega | assumption | exact hU _ (by omega) | exact hz _ (by omega)) (by first | omega | assumption | exact hU _ (by omega) | exact hz _ (by omega)) (by first | omega | assumption | exact hU _ (by omega) | exact hz _ (by omega)) hz) (cwV 3 hts gX4_able_X2_knownBehind rfl rfl rfl (by decide +kernel) ⟨Nat.le_of_ble_eq_true rfl, Nat.le_of_ble_eq_true rfl⟩) hP hK [1, 2, 3, 4] rfl rfl rfl rfl hl.1 rfl (Nat.le_of_ble_eq_true rfl) dX4_able_59 ⟨Nat.zero_le _, Nat.zero_le _⟩ ?_
            refine W.eq (g2 := F0 m 62 ls [.int (kn P M (wh P M (tn (U k)) jn) (lrn (K k)) (tn (U k)) jn)]) rfl ?_
            refine lv_bipush (v := nI 9) hx hb dX4_able_62 (by decide) ?_
            refine lv_icmp_lt (tgt := 74) hx hb dX4_able_64 (by decide) (fun c4 => ?_) (fun c4 => ?_)
            ·
              refine lv_iinc (v := nI (k + 1)) (lv' := [(3, .int (nI (k + 1))), (4, .int (nI (wh P M (tn (U k)) jn))), (2, .int (ab P M K U jn k)), (0, .ref x), (1, .int (nI jn))]) hx hb dX4_able_74 hl (k := 1) rfl (show nI k + Int32.ofInt 1 = nI (k + 1) from nI_add _ 1) (by decide) rfl (fun ls hl => ?_)
              refine lv_goto (tgt := 29) hx hb dX4_able_77 (by decide) ?_
              have hl5 : lv_has ls 5 [(3, .int (nI (k + 1))), (2, .int (ab P M K U jn (k + 1))), (0, .ref x), (1, .int (nI jn))] := by
                rw [show (ab P M K U jn (k + 1)) = (ab P M K U jn k) from by first | rfl | simp only [ab, iF_t c1, iF_f c2, iF_t c4, iF_f (i32_lt c4), tn_nI (show jn < 2 ^ 31 by omega)]]
                exact (lv_sub hl [0, 2, 3, 4] rfl)
              exact ih1 (k + 1) ls (by omega) (by omega) hl5
            ·
              refine lv_iload_n hx hb dX4_able_67 rfl (lv_at hl 2 rfl) ?_
              refine lv_iconst (v := nI 1) hx hb dX4_able_68 (by decide) ?_
              refine lv_iload hx hb dX4_able_69 (lv_at hl 0 rfl) ?_
              refine lv_ishl hx hb dX4_able_71 ?_
              refine lv_ior hx hb dX4_able_72 ?_
              refine lv_istore_n (lv' := [(2, .int ((ab P M K U jn k) ||| ((nI 1) <<< (nI (wh P M (tn (U k)) jn) &&& 31)))), (4, .int (nI (wh P M (tn (U k)) jn))), (3, .int (nI k)), (0, .ref x), (1, .int (nI jn))]) hx hb dX4_able_73 rfl hl (by decide) rfl (fun ls hl => ?_)
              refine lv_iinc (v := nI (k + 1)) (lv' := [(3, .int (nI (k + 1))), (2, .int ((ab P M K U jn k) ||| ((nI 1) <<< (nI (wh P M (tn (U k)) jn) &&& 31)))), (4, .int (nI (wh P M (tn (U k)) jn))), (0, .ref x), (1, .int (nI jn))]) hx hb dX4_able_74 hl (k := 2) rfl (show nI k + Int32.ofInt 1 = nI (k + 1) from nI_add _ 1) (by decide) rfl (fun ls hl => ?_)
              refine lv_goto (tgt := 29) hx hb dX4_able_77 (by decide) ?_
              have hl6 : lv_has ls 5 [(3, .int (nI (k + 1))), (2, .int (ab P M K U jn (k + 1))), (0, .ref x), (1, .int (nI jn))] := by
                rw [show (ab P M K U jn (k + 1)) = ((ab P M K U jn k) ||| ((nI 1) <<< (nI (wh P M (tn (U k)) jn) &&& 31))) from by first | rfl | simp only [ab, iF_t c1, iF_f c2, iF_f c4, iF_t (i32_nlt c4), tn_nI (show jn < 2 ^ 31 by omega)]]
                exact (lv_sub hl [0, 1, 3, 4] rfl)
              exact ih1 (k + 1) ls (by omega) (by omega) hl6
      have hl7 : lv_has ls 5 [(3, .int (nI 0)), (2, .int (ab P M K U jn 0)), (0, .ref x), (1, .int (nI jn))] := by
        rw [show (ab P M K U jn 0) = (nI 0) from by first | rfl | simp only [ab, iF_t c1, iF_f c2, tn_nI (show jn < 2 ^ 31 by omega)]]
        exact (lv_sub hl [0, 1, 2, 3] rfl)
      exact loop1 (B + 1) 0 ls (by omega) (by omega) hl7
    ·
      refine lv_bipush (v := (-3)) hx hb dX4_able_22 (by decide) ?_
      exact hret _ _ _ (by first | with_reducible rfl | simp only [s_able, iF_t c1, iF_t c2, tn_nI (show jn < 2 ^ 31 by omega)]) dX4_able_24
  ·
    refine lv_bipush (v := (-2)) hx hb dX4_able_9 (by decide) ?_
    exact hret _ _ _ (by first | with_reducible rfl | simp only [s_able, iF_f c1]) dX4_able_11

theorem ixX4_ring_X4 : ∀ w ∈ wsX40, w ∈ wsX4_ring := fun _ h => List.mem_cons_of_mem _ (List.mem_append_left _ (List.mem_append_right _ h))
theorem lkX4_ring_12 : Cond.fieldLink RX4 12 (TX4 0).1 (TX4 0).2.1 (TX4 0).2.2.1 ∈ wsX4_ring := List.mem_of_getElem? (i := 1) rfl
theorem ixX4_ring_X2 : ∀ w ∈ wsX20, w ∈ wsX4_ring := fun _ h => List.mem_cons_of_mem _ (List.mem_append_right _ h)
set_option maxHeartbeats 4000000 in
set_option maxRecDepth 100000 in
theorem kX4_ring (l : Launch) (G : Gl) (x : Nat) (st : Nat) (tr : Nat) (ra : Nat) (sa : Nat) (R : Nat) (tc : Int32) (fl : Int32) (ap : Nat) (ak : Nat) (ao : Nat) (M : Nat) (B : Nat) (P : Nat → Int32) (m0 : Int32) (hM : M ≤ 5) (hz : ∀ j, j < M → P (j * 5 + j) = nI 0) : Rd l G yX4_ring wsX4_ring ({ frames := 3, cells := 0, slots := 0, locals := 70 } : Room) [.ref x, .int m0] [(x, .inr (4, [.ref st, .ref tr, .ref ra, .int (nI R), .ref sa, .int tc, .int fl])), (st, .inr (2, [.ref ap, .ref ak, .ref ao, .int (nI M), .int (nI B)])), (ap, aI G 25 P)] (some (.int (s_ring M P m0))) := by
  refine Rd.ofI (cc := cX4_ring) (maxL := 3) (by decide) rfl (Nat.le_of_ble_eq_true rfl) ?_
  intro p e s m below meth c Q ls hE hP hK hl hret
  obtain ⟨hx, hb, hml, hown, hts⟩ := id hE
  have hl : lv_has ls 3 [(0, .ref x), (1, .int m0)] := hl
  refine lv_aload_n hx hb dX4_ring_0 rfl (lv_at hl 0 rfl) ?_
  refine g_get (v := .ref st) hx hb hts ixX4_ring_X4 hown hK hP 0 rfl rfl 0 (by decide) lkX4_ring_12 rfl dX4_ring_1 ?_
  refine lv_iload_n hx hb dX4_ring_4 rfl (lv_at hl 1 rfl) ?_
  refine rdV (As := [.int m0]) (rest := []) (ci := 2) (q0 := 1) hE (kX2_hasMaster l G st ap ak ao M B m0 hM) (cwV 1 hts gX4_ring_X2_hasMaster rfl rfl rfl (by decide +kernel) ⟨Nat.le_of_ble_eq_true rfl, Nat.le_of_ble_eq_true rfl⟩) hP hK [1] rfl rfl rfl rfl hl.1 rfl (Nat.le_of_ble_eq_true rfl) dX4_ring_5 ⟨Nat.zero_le _, Nat.zero_le _⟩ ?_
  refine W.eq (g2 := F0 m 8 ls [.int (bI (vp_in m0 M))]) rfl ?_
  refine bz_ne (tgt := 13) hx hb dX4_ring_8 (by decide) (fun c1 => ?_) (fun c1 => ?_)
  ·
    obtain ⟨jm0, hjm0, rfl⟩ := vp_in_of c1 (by omega)
    refine lv_aload_n hx hb dX4_ring_13 rfl (lv_at hl 0 rfl) ?_
    refine g_get (v := .ref st) hx hb hts ixX4_ring_X4 hown hK hP 0 rfl rfl 0 (by decide) lkX4_ring_12 rfl dX4_ring_14 ?_
    refine lv_iload_n hx hb dX4_ring_17 rfl (lv_at hl 1 rfl) ?_
    refine lv_aload_n hx hb dX4_ring_18 rfl (lv_at hl 0 rfl) ?_
    refine g_get (v := .ref st) hx hb hts ixX4_ring_X4 hown hK hP 0 rfl rfl 0 (by decide) lkX4_ring_12 rfl dX4_ring_19 ?_
    refine g_getN (v := .int (nI M)) hx hb hts ixX4_ring_X2 hown hK hP 1 rfl rfl 3 (by decide) nkX4_119 rfl dX4_ring_22 ?_
    refine rdV (As := [.int (nI jm0), .int (nI M)]) (rest := []) (ci := 2) (q0 := 1) hE (kX2_stepsFrom l G st ap ak ao M B P jm0 M hM hjm0 (by first | omega | assumption | exact hU _ (by omega) | exact hz _ (by omega)) hz) (cwV 2 hts gX4_ring_X2_stepsFrom rfl rfl rfl (by decide +kernel) ⟨Nat.le_of_ble_eq_true rfl, Nat.le_of_ble_eq_true rfl⟩) hP hK [1, 2] rfl rfl rfl rfl hl.1 rfl (Nat.le_of_ble_eq_true rfl) dX4_ring_25 ⟨Nat.zero_le _, Nat.zero_le _⟩ ?_
    refine W.eq (g2 := F0 m 28 ls [.int (nI (wh P M jm0 M))]) rfl ?_
    refine lv_istore_n (lv' := [(2, .int (nI (wh P M jm0 M))), (0, .ref x), (1, .int (nI jm0))]) hx hb dX4_ring_28 rfl hl (by decide) rfl (fun ls hl => ?_)
    have hwl := wh_lt (P := P) (show jm0 < M by omega) M
    refine lv_aload_n hx hb dX4_ring_29 rfl (lv_at hl 1 rfl) ?_
    refine g_get (v := .ref st) hx hb hts ixX4_ring_X4 hown hK hP 0 rfl rfl 0 (by decide) lkX4_ring_12 rfl dX4_ring_30 ?_
    refine lv_iload_n hx hb dX4_ring_33 rfl (lv_at hl 0 rfl) ?_
    refine rdV (As := [.int (nI (wh P M jm0 M))]) (rest := []) (ci := 2) (q0 := 1) hE (kX2_metFrom l G st ap ak ao M B P (wh P M jm0 M) hM (by first | omega | assumption | exact hU _ (by omega) | exact hz _ (by omega)) hz) (cwV 1 hts gX4_ring_X2_metFrom rfl rfl rfl (by decide +kernel) ⟨Nat.le_of_ble_eq_true rfl, Nat.le_of_ble_eq_true rfl⟩) hP hK [1, 2] rfl rfl rfl rfl hl.1 rfl (Nat.le_of_ble_eq_true rfl) dX4_ring_34 ⟨Nat.zero_le _, Nat.zero_le _⟩ ?_
    refine W.eq (g2 := F0 m 37 ls [.int (mt P M (wh P M jm0 M) M)]) rfl ?_
    exact hret _ _ _ (by first | with_reducible rfl | simp only [s_ring, iF_t c1, tn_nI (show jm0 < 2 ^ 31 by omega)]) dX4_ring_37
  ·
    refine lv_iconst (v := (-1)) hx hb dX4_ring_11 (by decide) ?_
    exact hret _ _ _ (by first | with_reducible rfl | simp only [s_ring, iF_f c1]) dX4_ring_12

theorem ixX4_home_X4 : ∀ w ∈ wsX40, w ∈ wsX4_home := fun _ h => List.mem_cons_of_mem _ (List.mem_append_left _ (List.mem_append_right _ h))
theorem lkX4_home_12 : Cond.fieldLink RX4 12 (TX4 0).1 (TX4 0).2.1 (TX4 0).2.2.1 ∈ wsX4_home := List.mem_of_getElem? (i := 1) rfl
theorem ixX4_home_X2 : ∀ w ∈ wsX20, w ∈ wsX4_home := fun _ h => List.mem_cons_of_mem _ (List.mem_append_right _ h)
set_option maxHeartbeats 4000000 in
set_option maxRecDepth 100000 in
theorem kX4_home (l : Launch) (G : Gl) (x : Nat) (st : Nat) (tr : Nat) (ra : Nat) (sa : Nat) (R : Nat) (tc : Int32) (fl : Int32) (ap : Nat) (ak : Nat) (ao : Nat) (M : Nat) (B : Nat) (P : Nat → Int32) (U : Nat → Int32) (b : Int32) (hM : M ≤ 5) (hB : B ≤ 4) (hz : ∀ j, j < M → P (j * 5 + j) = nI 0) (hU : ∀ b, b < B → vp_in (U b) M) : Rd l G yX4_home wsX4_home ({ frames := 4, cells := 0, slots := 0, locals := 92 } : Room) [.ref x, .int b] [(x, .inr (4, [.ref st, .ref tr, .ref ra, .int (nI R), .ref sa, .int tc, .int fl])), (st, .inr (2, [.ref ap, .ref ak, .ref ao, .int (nI M), .int (nI B)])), (ap, aI G 25 P), (ao, aI G 4 U)] (some (.int (s_home B M P U b))) := by
  refine Rd.ofI (cc := cX4_home) (maxL := 3) (by decide) rfl (Nat.le_of_ble_eq_true rfl) ?_
  intro p e s m below meth c Q ls hE hP hK hl hret
  obtain ⟨hx, hb, hml, hown, hts⟩ := id hE
  have hl : lv_has ls 3 [(0, .ref x), (1, .int b)] := hl
  refine lv_aload_n hx hb dX4_home_0 rfl (lv_at hl 0 rfl) ?_
  refine g_get (v := .ref st) hx hb hts ixX4_home_X4 hown hK hP 0 rfl rfl 0 (by decide) lkX4_home_12 rfl dX4_home_1 ?_
  refine lv_iload_n hx hb dX4_home_4 rfl (lv_at hl 1 rfl) ?_
  refine rdV (As := [.int b]) (rest := []) (ci := 2) (q0 := 1) hE (kX2_hasBoy l G st ap ak ao M B b hB) (cwV 1 hts gX4_home_X2_hasBoy rfl rfl rfl (by decide +kernel) ⟨Nat.le_of_ble_eq_true rfl, Nat.le_of_ble_eq_true rfl⟩) hP hK [1] rfl rfl rfl rfl hl.1 rfl (Nat.le_of_ble_eq_true rfl) dX4_home_5 ⟨Nat.zero_le _, Nat.zero_le _⟩ ?_
  refine W.eq (g2 := F0 m 8 ls [.int (bI (vp_in b B))]) rfl ?_
  refine bz_ne (tgt := 13) hx hb dX4_home_8 (by decide) (fun c1 => ?_) (fun c1 => ?_)
  ·
    obtain ⟨jb, hjb, rfl⟩ := vp_in_of c1 (by omega)
    refine lv_iconst (v := nI 1) hx hb dX4_home_13 (by decide) ?_
    refine lv_istore_n (lv' := [(2, .int (nI 1)), (0, .ref x), (1, .int (nI jb))]) hx hb dX4_home_14 rfl hl (by decide) rfl (fun ls hl => ?_)
    have loop1 : ∀ (d k : Nat) (ls : Array Slot), M < k + d → k ≤ M → (fi (fun k => wh P M (tn (U jb)) (k + 1) = tn (U jb)) k = none) → lv_has ls 3 [(2, .int (nI (k + 1))), (0, .ref x), (1, .int (nI jb))] → W p l e ({ frames := 4, cells := 0, slots := 0, locals := 92 } : Room) s m ([.ref x, .int (nI jb)] : List Value).toArray below meth c s.heap [] 0 0 Q (F0 m 15 ls []) := by
      intro d
      induction d with
      | zero =>
        intro k ls h1 h2
        omega
      | succ d ih1 =>
        intro k ls hdk hbk hk hl
        refine lv_iload_n hx hb dX4_home_15 rfl (lv_at hl 0 rfl) ?_
        refine lv_aload_n hx hb dX4_home_16 rfl (lv_at hl 1 rfl) ?_
        refine g_get (v := .ref st) hx hb hts ixX4_home_X4 hown hK hP 0 rfl rfl 0 (by decide) lkX4_home_12 rfl dX4_home_17 ?_
        refine g_getN (v := .int (nI M)) hx hb hts ixX4_home_X2 hown hK hP 1 rfl rfl 3 (by decide) nkX4_119 rfl dX4_home_20 ?_
        refine ic_gt (tgt := 55) hx hb (by omega) (by omega) dX4_home_23 (by decide) (fun c2 => ?_) (fun c2 => ?_)
        ·
          obtain rfl : M = k := by omega
          refine lv_bipush (v := (-9)) hx hb dX4_home_55 (by decide) ?_
          exact hret _ _ _ (by simp only [s_home, hmf, iF_t c1, tn_nI (show jb < 2 ^ 31 by omega)]; rw [hk]; rfl) dX4_home_57
        ·
          refine lv_aload_n hx hb dX4_home_26 rfl (lv_at hl 1 rfl) ?_
          refine g_get (v := .ref st) hx hb hts ixX4_home_X4 hown hK hP 0 rfl rfl 0 (by decide) lkX4_home_12 rfl dX4_home_27 ?_
          refine lv_iload_n hx hb dX4_home_30 rfl (lv_at hl 2 rfl) ?_
          refine lv_iload_n hx hb dX4_home_31 rfl (lv_at hl 0 rfl) ?_
          refine rdV (As := [.int (nI jb), .int (nI (k + 1))]) (rest := []) (ci := 2) (q0 := 1) hE (kX2_masterBehind l G st ap ak ao M B P U jb (k + 1) hM (by first | omega | assumption | exact hU _ (by omega) | exact hz _ (by omega)) (by first | omega | assumption | exact hU _ (by omega) | exact hz _ (by omega)) (by first | omega | assumption | exact hU _ (by omega) | exact hz _ (by omega)) hz) (cwV 2 hts gX4_home_X2_masterBehind rfl rfl rfl (by decide +kernel) ⟨Nat.le_of_ble_eq_true rfl, Nat.le_of_ble_eq_true rfl⟩) hP hK [1, 2, 3] rfl rfl rfl rfl hl.1 rfl (Nat.le_of_ble_eq_true rfl) dX4_home_32 ⟨Nat.zero_le _, Nat.zero_le _⟩ ?_
          refine W.eq (g2 := F0 m 35 ls [.int (nI (wh P M (tn (U jb)) (k + 1)))]) rfl ?_
          refine lv_aload_n hx hb dX4_home_35 rfl (lv_at hl 1 rfl) ?_
          refine g_get (v := .ref st) hx hb hts ixX4_home_X4 hown hK hP 0 rfl rfl 0 (by decide) lkX4_home_12 rfl dX4_home_36 ?_
          refine g_getN (v := .ref ao) hx hb hts ixX4_home_X2 hown hK hP 1 rfl rfl 2 (by decide) nkX4_86 rfl dX4_home_39 ?_
          refine lv_iload_n hx hb dX4_home_42 rfl (lv_at hl 2 rfl) ?_
          refine n_ald hx hb hK hP 3 rfl (k := jb) (by omega) (by decide) dX4_home_43 ?_
          refine lv_tope (show U jb = nI (tn (U jb)) from tn_of (hU jb hjb) (by omega)) ?_
          have hwl := wh_lt (P := P) (tn_lt (hU jb hjb) (by omega)) (k + 1)
          have hul := tn_lt (hU jb hjb) (by omega)
          refine ic_ne (tgt := 49) hx hb (by omega) (by omega) dX4_home_44 (by decide) (fun c3 => ?_) (fun c3 => ?_)
          ·
            refine lv_iinc (v := nI ((k + 1) + 1)) (lv' := [(2, .int (nI ((k + 1) + 1))), (0, .ref x), (1, .int (nI jb))]) hx hb dX4_home_49 hl (k := 0) rfl (show nI (k + 1) + Int32.ofInt 1 = nI ((k + 1) + 1) from nI_add _ 1) (by decide) rfl (fun ls hl => ?_)
            refine lv_goto (tgt := 15) hx hb dX4_home_52 (by decide) ?_
            exact ih1 (k + 1) ls (by omega) (by omega) (fi_miss hk c3) (lv_sub hl [0, 1, 2] rfl)
          ·
            refine lv_iload_n hx hb dX4_home_47 rfl (lv_at hl 0 rfl) ?_
            exact hret _ _ _ (by simp only [s_home, hmf, iF_t c1, tn_nI (show jb < 2 ^ 31 by omega)]; rw [fi_hit hk c3 (by omega)]; rfl) dX4_home_48
    have hl4 : lv_has ls 3 [(2, .int (nI (0 + 1))), (0, .ref x), (1, .int (nI jb))] := by
      rw [show (nI (0 + 1)) = (nI 1) from by first | rfl | simp only [iF_t c1, tn_nI (show jb < 2 ^ 31 by omega)]]
      exact (lv_sub hl [0, 1, 2] rfl)
    exact loop1 (M + 1) 0 ls (by omega) (by omega) rfl hl4
  ·
    refine lv_iconst (v := (-1)) hx hb dX4_home_11 (by decide) ?_
    exact hret _ _ _ (by first | with_reducible rfl | simp only [s_home, iF_f c1]) dX4_home_12

theorem ixX4_never_X4 : ∀ w ∈ wsX40, w ∈ wsX4_never := fun _ h => List.mem_cons_of_mem _ (List.mem_append_left _ (List.mem_append_right _ h))
theorem lkX4_never_12 : Cond.fieldLink RX4 12 (TX4 0).1 (TX4 0).2.1 (TX4 0).2.2.1 ∈ wsX4_never := List.mem_of_getElem? (i := 1) rfl
theorem ixX4_never_X2 : ∀ w ∈ wsX20, w ∈ wsX4_never := fun _ h => List.mem_cons_of_mem _ (List.mem_append_right _ h)
set_option maxHeartbeats 4000000 in
set_option maxRecDepth 100000 in
theorem kX4_never (l : Launch) (G : Gl) (x : Nat) (st : Nat) (tr : Nat) (ra : Nat) (sa : Nat) (R : Nat) (tc : Int32) (fl : Int32) (ap : Nat) (ak : Nat) (ao : Nat) (M : Nat) (B : Nat) (P : Nat → Int32) (U : Nat → Int32) (b : Int32) (hM : M ≤ 5) (hB : B ≤ 4) (hz : ∀ j, j < M → P (j * 5 + j) = nI 0) (hU : ∀ b, b < B → vp_in (U b) M) : Rd l G yX4_never wsX4_never ({ frames := 3, cells := 0, slots := 0, locals := 70 } : Room) [.ref x, .int b] [(x, .inr (4, [.ref st, .ref tr, .ref ra, .int (nI R), .ref sa, .int tc, .int fl])), (st, .inr (2, [.ref ap, .ref ak, .ref ao, .int (nI M), .int (nI B)])), (ap, aI G 25 P), (ao, aI G 4 U)] (some (.int (s_never B M P U b))) := by
  refine Rd.ofI (cc := cX4_never) (maxL := 2) (by decide) rfl (Nat.le_of_ble_eq_true rfl) ?_
  intro p e s m below meth c Q ls hE hP hK hl hret
  obtain ⟨hx, hb, hml, hown, hts⟩ := id hE
  have hl : lv_has ls 2 [(0, .ref x), (1, .int b)] := hl
  refine lv_aload_n hx hb dX4_never_0 rfl (lv_at hl 0 rfl) ?_
  refine g_get (v := .ref st) hx hb hts ixX4_never_X4 hown hK hP 0 rfl rfl 0 (by decide) lkX4_never_12 rfl dX4_never_1 ?_
  refine lv_iload_n hx hb dX4_never_4 rfl (lv_at hl 1 rfl) ?_
  refine rdV (As := [.int b]) (rest := []) (ci := 2) (q0 := 1) hE (kX2_hasBoy l G st ap ak ao M B b hB) (cwV 1 hts gX4_never_X2_hasBoy rfl rfl rfl (by decide +kernel) ⟨Nat.le_of_ble_eq_true rfl, Nat.le_of_ble_eq_true rfl⟩) hP hK [1] rfl rfl rfl rfl hl.1 rfl (Nat.le_of_ble_eq_true rfl) dX4_never_5 ⟨Nat.zero_le _, Nat.zero_le _⟩ ?_
  refine W.eq (g2 := F0 m 8 ls [.int (bI (vp_in b B))]) rfl ?_
  refine bz_ne (tgt := 13) hx hb dX4_never_8 (by decide) (fun c1 => ?_) (fun c1 => ?_)
  ·
    obtain ⟨jb, hjb, rfl⟩ := vp_in_of c1 (by omega)
    refine lv_aload_n hx hb dX4_never_13 rfl (lv_at hl 0 rfl) ?_
    refine g_get (v := .ref st) hx hb hts ixX4_never_X4 hown hK hP 0 rfl rfl 0 (by decide) lkX4_never_12 rfl dX4_never_14 ?_
    refine rdV (As := []) (rest := []) (ci := 2) (q0 := 1) hE (kX2_allMasters l G st ap ak ao M B ) (cwV 0 hts gX4_never_X2_allMasters rfl rfl rfl (by decide +kernel) ⟨Nat.le_of_ble_eq_true rfl, Nat.le_of_ble_eq_true rfl⟩) hP hK [1] rfl rfl rfl rfl hl.1 rfl (Nat.le_of_ble_eq_true rfl) dX4_never_17 ⟨Nat.zero_le _, Nat.zero_le _⟩ ?_
    refine W.eq (g2 := F0 m 20 ls [.int (nI 1 <<< (nI M &&& 31) - nI 1)]) rfl ?_
    refine lv_aload_n hx hb dX4_never_20 rfl (lv_at hl 0 rfl) ?_
    refine g_get (v := .ref st) hx hb hts ixX4_never_X4 hown hK hP 0 rfl rfl 0 (by decide) lkX4_never_12 rfl dX4_never_21 ?_
    refine lv_aload_n hx hb dX4_never_24 rfl (lv_at hl 0 rfl) ?_
    refine g_get (v := .ref st) hx hb hts ixX4_never_X4 hown hK hP 0 rfl rfl 0 (by decide) lkX4_never_12 rfl dX4_never_25 ?_
    refine g_getN (v := .ref ao) hx hb hts ixX4_never_X2 hown hK hP 1 rfl rfl 2 (by decide) nkX4_86 rfl dX4_never_28 ?_
    refine lv_iload_n hx hb dX4_never_31 rfl (lv_at hl 1 rfl) ?_
    refine n_ald hx hb hK hP 3 rfl (k := jb) (by omega) (by decide) dX4_never_32 ?_
    refine lv_tope (show U jb = nI (tn (U jb)) from tn_of (hU jb hjb) (by omega)) ?_
    have hul := tn_lt (hU jb hjb) (by omega)
    refine rdV (As := [.int (nI (tn (U jb)))]) (rest := [.int (nI 1 <<< (nI M &&& 31) - nI 1)]) (ci := 2) (q0 := 1) hE (kX2_metFrom l G st ap ak ao M B P (tn (U jb)) hM (by first | omega | assumption | exact hU _ (by omega) | exact hz _ (by omega)) hz) (cwV 1 hts gX4_never_X2_metFrom rfl rfl rfl (by decide +kernel) ⟨Nat.le_of_ble_eq_true rfl, Nat.le_of_ble_eq_true rfl⟩) hP hK [1, 2] rfl rfl rfl rfl hl.1 rfl (Nat.le_of_ble_eq_true rfl) dX4_never_33 ⟨Nat.zero_le _, Nat.zero_le _⟩ ?_
    refine W.eq (g2 := F0 m 36 ls [.int (mt P M (tn (U jb)) M), .int (nI 1 <<< (nI M &&& 31) - nI 1)]) rfl ?_
    refine lv_iconst (v := (-1)) hx hb dX4_never_36 (by decide) ?_
    refine lv_ixor hx hb dX4_never_37 ?_
    refine lv_iand hx hb dX4_never_38 ?_
    exact hret _ _ _ (by first | with_reducible rfl | simp only [s_never, iF_t c1, tn_nI (show jb < 2 ^ 31 by omega)]) dX4_never_39
  ·
    refine lv_iconst (v := (-1)) hx hb dX4_never_11 (by decide) ?_
    exact hret _ _ _ (by first | with_reducible rfl | simp only [s_never, iF_f c1]) dX4_never_12

theorem ixX4_many_X4 : ∀ w ∈ wsX40, w ∈ wsX4_many := fun _ h => List.mem_cons_of_mem _ (List.mem_append_left _ (List.mem_append_right _ h))
theorem lkX4_many_12 : Cond.fieldLink RX4 12 (TX4 0).1 (TX4 0).2.1 (TX4 0).2.2.1 ∈ wsX4_many := List.mem_of_getElem? (i := 1) rfl
theorem ixX4_many_X2 : ∀ w ∈ wsX20, w ∈ wsX4_many := fun _ h => List.mem_cons_of_mem _ (List.mem_append_right _ h)
theorem lkX4_many_27 : Cond.fieldLink RX4 27 (TX4 3).1 (TX4 3).2.1 (TX4 3).2.2.1 ∈ wsX4_many := List.mem_of_getElem? (i := 2) rfl
set_option maxHeartbeats 4000000 in
set_option maxRecDepth 100000 in
theorem kX4_many (l : Launch) (G : Gl) (x : Nat) (st : Nat) (tr : Nat) (ra : Nat) (sa : Nat) (R : Nat) (tc : Int32) (fl : Int32) (ap : Nat) (ak : Nat) (ao : Nat) (M : Nat) (B : Nat) (w : Int32) : Rd l G yX4_many wsX4_many ({ frames := 0, cells := 0, slots := 0, locals := 0 } : Room) [.ref x, .int w] [(x, .inr (4, [.ref st, .ref tr, .ref ra, .int (nI R), .ref sa, .int tc, .int fl])), (st, .inr (2, [.ref ap, .ref ak, .ref ao, .int (nI M), .int (nI B)]))] (some (.int (s_many B M R w))) := by
  refine Rd.ofI (cc := cX4_many) (maxL := 2) (by decide) rfl (Nat.le_of_ble_eq_true rfl) ?_
  intro p e s m below meth c Q ls hE hP hK hl hret
  obtain ⟨hx, hb, hml, hown, hts⟩ := id hE
  have hl : lv_has ls 2 [(0, .ref x), (1, .int w)] := hl
  refine lv_iload_n hx hb dX4_many_0 rfl (lv_at hl 1 rfl) ?_
  by_cases c1 : w = 0
  ·
    refine lv_tableIn (tgt := 28) (off := 27) hx hb dX4_many_1 (by rw [c1]; decide) (by rw [c1]; decide) (by rw [c1]; decide) (by decide) ?_
    refine lv_aload_n hx hb dX4_many_28 rfl (lv_at hl 0 rfl) ?_
    refine g_get (v := .ref st) hx hb hts ixX4_many_X4 hown hK hP 0 rfl rfl 0 (by decide) lkX4_many_12 rfl dX4_many_29 ?_
    refine g_getN (v := .int (nI B)) hx hb hts ixX4_many_X2 hown hK hP 1 rfl rfl 4 (by decide) nkX4_76 rfl dX4_many_32 ?_
    exact hret _ _ _ (by first | with_reducible rfl | simp only [s_many, iF_t c1]) dX4_many_35
  ·
    by_cases c2 : w = 1
    ·
      refine lv_tableIn (tgt := 36) (off := 35) hx hb dX4_many_1 (by rw [c2]; decide) (by rw [c2]; decide) (by rw [c2]; decide) (by decide) ?_
      refine lv_aload_n hx hb dX4_many_36 rfl (lv_at hl 0 rfl) ?_
      refine g_get (v := .ref st) hx hb hts ixX4_many_X4 hown hK hP 0 rfl rfl 0 (by decide) lkX4_many_12 rfl dX4_many_37 ?_
      refine g_getN (v := .int (nI M)) hx hb hts ixX4_many_X2 hown hK hP 1 rfl rfl 3 (by decide) nkX4_119 rfl dX4_many_40 ?_
      exact hret _ _ _ (by first | with_reducible rfl | simp only [s_many, iF_f c1, iF_t c2]) dX4_many_43
    ·
      by_cases c3 : w = 2
      ·
        refine lv_tableIn (tgt := 44) (off := 43) hx hb dX4_many_1 (by rw [c3]; decide) (by rw [c3]; decide) (by rw [c3]; decide) (by decide) ?_
        refine lv_aload_n hx hb dX4_many_44 rfl (lv_at hl 0 rfl) ?_
        refine g_get (v := .int (nI R)) hx hb hts ixX4_many_X4 hown hK hP 0 rfl rfl 3 (by decide) lkX4_many_27 rfl dX4_many_45 ?_
        exact hret _ _ _ (by first | with_reducible rfl | simp only [s_many, iF_f c1, iF_f c2, iF_t c3]) dX4_many_48
      ·
        refine lv_tableOut (tgt := 49) hx hb dX4_many_1 (sw_out3 c1 c2 c3) (by decide) ?_
        refine lv_bipush (v := (-2)) hx hb dX4_many_49 (by decide) ?_
        exact hret _ _ _ (by first | with_reducible rfl | simp only [s_many, iF_f c1, iF_f c2, iF_f c3]) dX4_many_51

theorem ixX4_toldByBoy_X4 : ∀ w ∈ wsX40, w ∈ wsX4_toldByBoy := fun _ h => List.mem_cons_of_mem _ (List.mem_append_left _ (List.mem_append_right _ h))
theorem lkX4_toldByBoy_12 : Cond.fieldLink RX4 12 (TX4 0).1 (TX4 0).2.1 (TX4 0).2.2.1 ∈ wsX4_toldByBoy := List.mem_of_getElem? (i := 1) rfl
theorem ixX4_toldByBoy_X2 : ∀ w ∈ wsX20, w ∈ wsX4_toldByBoy := fun _ h => List.mem_cons_of_mem _ (List.mem_append_right _ h)
set_option maxHeartbeats 4000000 in
set_option maxRecDepth 100000 in
theorem kX4_toldByBoy (l : Launch) (G : Gl) (x : Nat) (st : Nat) (tr : Nat) (ra : Nat) (sa : Nat) (R : Nat) (tc : Int32) (fl : Int32) (ap : Nat) (ak : Nat) (ao : Nat) (M : Nat) (B : Nat) (U : Nat → Int32) (b : Nat) (hb4 : b < 4) : Wt l G yX4_toldByBoy wsX4_toldByBoy ({ frames := 1, cells := 0, slots := 0, locals := 21 } : Room) [.ref x, .int (nI b)] [(x, .inr (4, [.ref st, .ref tr, .ref ra, .int (nI R), .ref sa, .int tc, .int fl])), (st, .inr (2, [.ref ap, .ref ak, .ref ao, .int (nI M), .int (nI B)])), (ao, aI G 4 U)] [(x, .inr (4, [.ref st, .ref tr, .ref ra, .int (nI R), .ref sa, .int (lt1 tc (nI 1)), .int fl])), (st, .inr (2, [.ref ap, .ref ak, .ref ao, .int (nI M), .int (nI B)])), (ao, aI G 4 U)] (some (.int (U b))) := by
  refine Wt.ofI (cc := cX4_toldByBoy) (maxL := 2) (by decide) rfl (Nat.le_of_ble_eq_true rfl) ?_
  intro p e s m below meth c Q A ls hE hP hK hD hS hl hret
  obtain ⟨hx, hb, hml, hown, hts⟩ := id hE
  have hl : lv_has ls 2 [(0, .ref x), (1, .int (nI b))] := hl
  refine lv_aload_n hx hb dX4_toldByBoy_0 rfl (lv_at hl 0 rfl) ?_
  refine lv_iconst (v := nI 1) hx hb dX4_toldByBoy_1 (by decide) ?_
  refine wtV (As := [.int (nI 1)]) (rest := []) (ci := 4) (q0 := 0) hE (kX4_leaveTrace l G x st tr ra sa R tc fl (nI 1) ) (cwV 1 hts gX4_toldByBoy_X4_leaveTrace rfl rfl rfl (by decide +kernel) ⟨Nat.le_of_ble_eq_true rfl, Nat.le_of_ble_eq_true rfl⟩) hP hK hD hS [0] (by decide) rfl rfl (W1 := [(x, .inr (4, [.ref st, .ref tr, .ref ra, .int (nI R), .ref sa, .int (lt1 tc (nI 1)), .int fl])), (st, .inr (2, [.ref ap, .ref ak, .ref ao, .int (nI M), .int (nI B)])), (ao, aI G 4 U)]) rfl rfl rfl rfl hl.1 rfl (Nat.le_of_ble_eq_true rfl) dX4_toldByBoy_2 ⟨Nat.zero_le _, Nat.zero_le _⟩ (fun H locs hP hD hS => ?_)
  refine W.eq (g2 := F0 m 5 ls []) rfl ?_
  refine lv_aload_n hx hb dX4_toldByBoy_5 rfl (lv_at hl 0 rfl) ?_
  refine g_get (v := .ref st) hx hb hts ixX4_toldByBoy_X4 hown hK hP 0 rfl rfl 0 (by decide) lkX4_toldByBoy_12 rfl dX4_toldByBoy_6 ?_
  refine g_getN (v := .ref ao) hx hb hts ixX4_toldByBoy_X2 hown hK hP 1 rfl rfl 2 (by decide) nkX4_86 rfl dX4_toldByBoy_9 ?_
  refine lv_iload_n hx hb dX4_toldByBoy_12 rfl (lv_at hl 1 rfl) ?_
  refine n_ald hx hb hK hP 2 rfl (k := b) (by omega) (by decide) dX4_toldByBoy_13 ?_
  exact hret _ _ _ _ _ (by first | with_reducible rfl | simp only []) (hP) hS dX4_toldByBoy_14

set_option maxHeartbeats 4000000 in
set_option maxRecDepth 100000 in
theorem kX4_toldByClever (l : Launch) (G : Gl) (x : Nat) (st : Nat) (tr : Nat) (ra : Nat) (sa : Nat) (R : Nat) (tc : Int32) (fl : Int32) (ap : Nat) (ak : Nat) (ao : Nat) (M : Nat) (B : Nat) (U : Nat → Int32) (b : Nat) (hb4 : b < 4) : Wt l G yX4_toldByClever wsX4_toldByClever ({ frames := 2, cells := 0, slots := 0, locals := 42 } : Room) [.ref x, .int (nI b)] [(x, .inr (4, [.ref st, .ref tr, .ref ra, .int (nI R), .ref sa, .int tc, .int fl])), (st, .inr (2, [.ref ap, .ref ak, .ref ao, .int (nI M), .int (nI B)])), (ao, aI G 4 U)] [(x, .inr (4, [.ref st, .ref tr, .ref ra, .int (nI R), .ref sa, .int (lt1 (lt1 tc (nI 2)) (nI 1)), .int fl])), (st, .inr (2, [.ref ap, .ref ak, .ref ao, .int (nI M), .int (nI B)])), (ao, aI G 4 U)] (some (.int (U b + nI 100))) := by
  refine Wt.ofI (cc := cX4_toldByClever) (maxL := 2) (by decide) rfl (Nat.le_of_ble_eq_true rfl) ?_
  intro p e s m below meth c Q A ls hE hP hK hD hS hl hret
  obtain ⟨hx, hb, hml, hown, hts⟩ := id hE
  have hl : lv_has ls 2 [(0, .ref x), (1, .int (nI b))] := hl
  refine lv_aload_n hx hb dX4_toldByClever_0 rfl (lv_at hl 0 rfl) ?_
  refine lv_iconst (v := nI 2) hx hb dX4_toldByClever_1 (by decide) ?_
  refine wtV (As := [.int (nI 2)]) (rest := []) (ci := 4) (q0 := 0) hE (kX4_leaveTrace l G x st tr ra sa R tc fl (nI 2) ) (cwV 1 hts gX4_toldByClever_X4_leaveTrace rfl rfl rfl (by decide +kernel) ⟨Nat.le_of_ble_eq_true rfl, Nat.le_of_ble_eq_true rfl⟩) hP hK hD hS [0] (by decide) rfl rfl (W1 := [(x, .inr (4, [.ref st, .ref tr, .ref ra, .int (nI R), .ref sa, .int (lt1 tc (nI 2)), .int fl])), (st, .inr (2, [.ref ap, .ref ak, .ref ao, .int (nI M), .int (nI B)])), (ao, aI G 4 U)]) rfl rfl rfl rfl hl.1 rfl (Nat.le_of_ble_eq_true rfl) dX4_toldByClever_2 ⟨Nat.zero_le _, Nat.zero_le _⟩ (fun H locs hP hD hS => ?_)
  refine W.eq (g2 := F0 m 5 ls []) rfl ?_
  refine lv_aload_n hx hb dX4_toldByClever_5 rfl (lv_at hl 0 rfl) ?_
  refine lv_iload_n hx hb dX4_toldByClever_6 rfl (lv_at hl 1 rfl) ?_
  refine wtV (As := [.int (nI b)]) (rest := []) (ci := 4) (q0 := 0) hE (kX4_toldByBoy l G x st tr ra sa R (lt1 tc (nI 2)) fl ap ak ao M B U b hb4) (cwV 1 hts gX4_toldByClever_X4_toldByBoy rfl rfl rfl (by decide +kernel) ⟨Nat.le_of_ble_eq_true rfl, Nat.le_of_ble_eq_true rfl⟩) hP hK hD hS [0, 1, 2] (by decide) rfl rfl (W1 := [(x, .inr (4, [.ref st, .ref tr, .ref ra, .int (nI R), .ref sa, .int (lt1 (lt1 tc (nI 2)) (nI 1)), .int fl])), (st, .inr (2, [.ref ap, .ref ak, .ref ao, .int (nI M), .int (nI B)])), (ao, aI G 4 U)]) rfl rfl rfl rfl hl.1 rfl (Nat.le_of_ble_eq_true rfl) dX4_toldByClever_7 ⟨Nat.zero_le _, Nat.zero_le _⟩ (fun H locs hP hD hS => ?_)
  refine W.eq (g2 := F0 m 10 ls [.int (U b)]) rfl ?_
  refine lv_bipush (v := nI 100) hx hb dX4_toldByClever_10 (by decide) ?_
  refine lv_iadd hx hb dX4_toldByClever_12 ?_
  exact hret _ _ _ _ _ (by first | with_reducible rfl | simp only []) (hP) hS dX4_toldByClever_13

set_option maxHeartbeats 4000000 in
set_option maxRecDepth 100000 in
theorem kX4_toldByDunce (l : Launch) (G : Gl) (x : Nat) (st : Nat) (tr : Nat) (ra : Nat) (sa : Nat) (R : Nat) (tc : Int32) (fl : Int32) (ap : Nat) (ak : Nat) (ao : Nat) (M : Nat) (B : Nat) (U : Nat → Int32) (b : Nat) (hb4 : b < 4) : Wt l G yX4_toldByDunce wsX4_toldByDunce ({ frames := 3, cells := 0, slots := 0, locals := 63 } : Room) [.ref x, .int (nI b)] [(x, .inr (4, [.ref st, .ref tr, .ref ra, .int (nI R), .ref sa, .int tc, .int fl])), (st, .inr (2, [.ref ap, .ref ak, .ref ao, .int (nI M), .int (nI B)])), (ao, aI G 4 U)] [(x, .inr (4, [.ref st, .ref tr, .ref ra, .int (nI R), .ref sa, .int (lt1 (lt1 (lt1 (lt1 tc (nI 3)) (nI 2)) (nI 1)) (nI 1)), .int fl])), (st, .inr (2, [.ref ap, .ref ak, .ref ao, .int (nI M), .int (nI B)])), (ao, aI G 4 U)] (some (.int ((U b + nI 100) + U b))) := by
  refine Wt.ofI (cc := cX4_toldByDunce) (maxL := 3) (by decide) rfl (Nat.le_of_ble_eq_true rfl) ?_
  intro p e s m below meth c Q A ls hE hP hK hD hS hl hret
  obtain ⟨hx, hb, hml, hown, hts⟩ := id hE
  have hl : lv_has ls 3 [(0, .ref x), (1, .int (nI b))] := hl
  refine lv_aload_n hx hb dX4_toldByDunce_0 rfl (lv_at hl 0 rfl) ?_
  refine lv_iconst (v := nI 3) hx hb dX4_toldByDunce_1 (by decide) ?_
  refine wtV (As := [.int (nI 3)]) (rest := []) (ci := 4) (q0 := 0) hE (kX4_leaveTrace l G x st tr ra sa R tc fl (nI 3) ) (cwV 1 hts gX4_toldByDunce_X4_leaveTrace rfl rfl rfl (by decide +kernel) ⟨Nat.le_of_ble_eq_true rfl, Nat.le_of_ble_eq_true rfl⟩) hP hK hD hS [0] (by decide) rfl rfl (W1 := [(x, .inr (4, [.ref st, .ref tr, .ref ra, .int (nI R), .ref sa, .int (lt1 tc (nI 3)), .int fl])), (st, .inr (2, [.ref ap, .ref ak, .ref ao, .int (nI M), .int (nI B)])), (ao, aI G 4 U)]) rfl rfl rfl rfl hl.1 rfl (Nat.le_of_ble_eq_true rfl) dX4_toldByDunce_2 ⟨Nat.zero_le _, Nat.zero_le _⟩ (fun H locs hP hD hS => ?_)
  refine W.eq (g2 := F0 m 5 ls []) rfl ?_
  refine lv_aload_n hx hb dX4_toldByDunce_5 rfl (lv_at hl 0 rfl) ?_
  refine lv_iload_n hx hb dX4_toldByDunce_6 rfl (lv_at hl 1 rfl) ?_
  refine wtV (As := [.int (nI b)]) (rest := []) (ci := 4) (q0 := 0) hE (kX4_toldByClever l G x st tr ra sa R (lt1 tc (nI 3)) fl ap ak ao M B U b hb4) (cwV 1 hts gX4_toldByDunce_X4_toldByClever rfl rfl rfl (by decide +kernel) ⟨Nat.le_of_ble_eq_true rfl, Nat.le_of_ble_eq_true rfl⟩) hP hK hD hS [0, 1, 2] (by decide) rfl rfl (W1 := [(x, .inr (4, [.ref st, .ref tr, .ref ra, .int (nI R), .ref sa, .int (lt1 (lt1 (lt1 tc (nI 3)) (nI 2)) (nI 1)), .int fl])), (st, .inr (2, [.ref ap, .ref ak, .ref ao, .int (nI M), .int (nI B)])), (ao, aI G 4 U)]) rfl rfl rfl rfl hl.1 rfl (Nat.le_of_ble_eq_true rfl) dX4_toldByDunce_7 ⟨Nat.zero_le _, Nat.zero_le _⟩ (fun H locs hP hD hS => ?_)
  refine W.eq (g2 := F0 m 10 ls [.int (U b + nI 100)]) rfl ?_
  refine lv_istore_n (lv' := [(2, .int (U b + nI 100)), (0, .ref x), (1, .int (nI b))]) hx hb dX4_toldByDunce_10 rfl hl (by decide) rfl (fun ls hl => ?_)
  refine lv_iload_n hx hb dX4_toldByDunce_11 rfl (lv_at hl 0 rfl) ?_
  refine lv_aload_n hx hb dX4_toldByDunce_12 rfl (lv_at hl 1 rfl) ?_
  refine lv_iload_n hx hb dX4_toldByDunce_13 rfl (lv_at hl 2 rfl) ?_
  refine wtV (As := [.int (nI b)]) (rest := [.int (U b + nI 100)]) (ci := 4) (q0 := 0) hE (kX4_toldByBoy l G x st tr ra sa R (lt1 (lt1 (lt1 tc (nI 3)) (nI 2)) (nI 1)) fl ap ak ao M B U b hb4) (cwV 1 hts gX4_toldByDunce_X4_toldByBoy rfl rfl rfl (by decide +kernel) ⟨Nat.le_of_ble_eq_true rfl, Nat.le_of_ble_eq_true rfl⟩) hP hK hD hS [0, 1, 2] (by decide) rfl rfl (W1 := [(x, .inr (4, [.ref st, .ref tr, .ref ra, .int (nI R), .ref sa, .int (lt1 (lt1 (lt1 (lt1 tc (nI 3)) (nI 2)) (nI 1)) (nI 1)), .int fl])), (st, .inr (2, [.ref ap, .ref ak, .ref ao, .int (nI M), .int (nI B)])), (ao, aI G 4 U)]) rfl rfl rfl rfl hl.1 rfl (Nat.le_of_ble_eq_true rfl) dX4_toldByDunce_14 ⟨Nat.zero_le _, Nat.zero_le _⟩ (fun H locs hP hD hS => ?_)
  refine W.eq (g2 := F0 m 17 ls [.int (U b), .int (U b + nI 100)]) rfl ?_
  refine lv_iadd hx hb dX4_toldByDunce_17 ?_
  exact hret _ _ _ _ _ (by first | with_reducible rfl | simp only []) (hP) hS dX4_toldByDunce_18

theorem ixX4_tell_X4 : ∀ w ∈ wsX40, w ∈ wsX4_tell := fun _ h => List.mem_cons_of_mem _ (List.mem_append_left _ (List.mem_append_right _ h))
theorem lkX4_tell_12 : Cond.fieldLink RX4 12 (TX4 0).1 (TX4 0).2.1 (TX4 0).2.2.1 ∈ wsX4_tell := List.mem_of_getElem? (i := 1) rfl
theorem ixX4_tell_X2 : ∀ w ∈ wsX20, w ∈ wsX4_tell := fun _ h => List.mem_cons_of_mem _ (List.mem_append_right _ h)
set_option maxHeartbeats 4000000 in
set_option maxRecDepth 100000 in
theorem kX4_tell (l : Launch) (G : Gl) (x : Nat) (st : Nat) (tr : Nat) (ra : Nat) (sa : Nat) (R : Nat) (tc : Int32) (fl : Int32) (ap : Nat) (ak : Nat) (ao : Nat) (M : Nat) (B : Nat) (K : Nat → Int32) (U : Nat → Int32) (b : Int32) (hB : B ≤ 4) : Wt l G yX4_tell wsX4_tell ({ frames := 4, cells := 0, slots := 0, locals := 85 } : Room) [.ref x, .int b] [(x, .inr (4, [.ref st, .ref tr, .ref ra, .int (nI R), .ref sa, .int tc, .int fl])), (st, .inr (2, [.ref ap, .ref ak, .ref ao, .int (nI M), .int (nI B)])), (ak, aI G 4 K), (ao, aI G 4 U)] [(x, .inr (4, [.ref st, .ref tr, .ref ra, .int (nI R), .ref sa, .int (t_tell B K tc b), .int fl])), (st, .inr (2, [.ref ap, .ref ak, .ref ao, .int (nI M), .int (nI B)])), (ak, aI G 4 K), (ao, aI G 4 U)] (some (.int (s_tell B K U b))) := by
  refine Wt.ofI (cc := cX4_tell) (maxL := 2) (by decide) rfl (Nat.le_of_ble_eq_true rfl) ?_
  intro p e s m below meth c Q A ls hE hP hK hD hS hl hret
  obtain ⟨hx, hb, hml, hown, hts⟩ := id hE
  have hl : lv_has ls 2 [(0, .ref x), (1, .int b)] := hl
  refine lv_aload_n hx hb dX4_tell_0 rfl (lv_at hl 0 rfl) ?_
  refine g_get (v := .ref st) hx hb hts ixX4_tell_X4 hown hK hP 0 rfl rfl 0 (by decide) lkX4_tell_12 rfl dX4_tell_1 ?_
  refine lv_iload_n hx hb dX4_tell_4 rfl (lv_at hl 1 rfl) ?_
  refine rdV (As := [.int b]) (rest := []) (ci := 2) (q0 := 1) hE (kX2_hasBoy l G st ap ak ao M B b hB) (cwV 1 hts gX4_tell_X2_hasBoy rfl rfl rfl (by decide +kernel) ⟨Nat.le_of_ble_eq_true rfl, Nat.le_of_ble_eq_true rfl⟩) hP hK [1] rfl rfl rfl rfl hl.1 rfl (Nat.le_of_ble_eq_true rfl) dX4_tell_5 ⟨Nat.zero_le _, Nat.zero_le _⟩ ?_
  refine W.eq (g2 := F0 m 8 ls [.int (bI (vp_in b B))]) rfl ?_
  refine bz_ne (tgt := 13) hx hb dX4_tell_8 (by decide) (fun c1 => ?_) (fun c1 => ?_)
  ·
    obtain ⟨jb, hjb, rfl⟩ := vp_in_of c1 (by omega)
    refine lv_aload_n hx hb dX4_tell_13 rfl (lv_at hl 0 rfl) ?_
    refine g_get (v := .ref st) hx hb hts ixX4_tell_X4 hown hK hP 0 rfl rfl 0 (by decide) lkX4_tell_12 rfl dX4_tell_14 ?_
    refine g_getN (v := .ref ak) hx hb hts ixX4_tell_X2 hown hK hP 1 rfl rfl 1 (by decide) nkX4_82 rfl dX4_tell_17 ?_
    refine lv_iload_n hx hb dX4_tell_20 rfl (lv_at hl 1 rfl) ?_
    refine n_ald hx hb hK hP 2 rfl (k := jb) (by omega) (by decide) dX4_tell_21 ?_
    by_cases c2 : K jb = 1
    ·
      refine lv_lookup (tgt := 48) (off := 26) hx hb dX4_tell_22 (by decide) (by rw [c2]; decide) (by decide) ?_
      refine lv_aload_n hx hb dX4_tell_48 rfl (lv_at hl 0 rfl) ?_
      refine lv_iload_n hx hb dX4_tell_49 rfl (lv_at hl 1 rfl) ?_
      refine wtV (As := [.int (nI jb)]) (rest := []) (ci := 4) (q0 := 0) hE (kX4_toldByClever l G x st tr ra sa R tc fl ap ak ao M B U jb (by first | omega | assumption)) (cwV 1 hts gX4_tell_X4_toldByClever rfl rfl rfl (by decide +kernel) ⟨Nat.le_of_ble_eq_true rfl, Nat.le_of_ble_eq_true rfl⟩) hP hK hD hS [0, 1, 3] (by decide) rfl rfl (W1 := [(x, .inr (4, [.ref st, .ref tr, .ref ra, .int (nI R), .ref sa, .int (lt1 (lt1 tc (nI 2)) (nI 1)), .int fl])), (st, .inr (2, [.ref ap, .ref ak, .ref ao, .int (nI M), .int (nI B)])), (ak, aI G 4 K), (ao, aI G 4 U)]) rfl rfl rfl rfl hl.1 rfl (Nat.le_of_ble_eq_true rfl) dX4_tell_50 ⟨Nat.zero_le _, Nat.zero_le _⟩ (fun H locs hP hD hS => ?_)
      refine W.eq (g2 := F0 m 53 ls [.int (U jb + nI 100)]) rfl ?_
      exact hret _ _ _ _ _ (by first | with_reducible rfl | simp only [s_tell, t_tell, tel, trc, iF_t c1, iF_t c2, tn_nI (show jb < 2 ^ 31 by omega)]) (by first | exact hP | (simp only [s_tell, t_tell, tel, trc, iF_t c1, iF_t c2, tn_nI (show jb < 2 ^ 31 by omega)]; exact hP)) hS dX4_tell_53
    ·
      by_cases c3 : K jb = 2
      ·
        refine lv_lookup (tgt := 54) (off := 32) hx hb dX4_tell_22 (by decide) (by rw [c3]; decide) (by decide) ?_
        refine lv_aload_n hx hb dX4_tell_54 rfl (lv_at hl 0 rfl) ?_
        refine lv_iload_n hx hb dX4_tell_55 rfl (lv_at hl 1 rfl) ?_
        refine wtV (As := [.int (nI jb)]) (rest := []) (ci := 4) (q0 := 0) hE (kX4_toldByDunce l G x st tr ra sa R tc fl ap ak ao M B U jb (by first | omega | assumption)) (cwV 1 hts gX4_tell_X4_toldByDunce rfl rfl rfl (by decide +kernel) ⟨Nat.le_of_ble_eq_true rfl, Nat.le_of_ble_eq_true rfl⟩) hP hK hD hS [0, 1, 3] (by decide) rfl rfl (W1 := [(x, .inr (4, [.ref st, .ref tr, .ref ra, .int (nI R), .ref sa, .int (lt1 (lt1 (lt1 (lt1 tc (nI 3)) (nI 2)) (nI 1)) (nI 1)), .int fl])), (st, .inr (2, [.ref ap, .ref ak, .ref ao, .int (nI M), .int (nI B)])), (ak, aI G 4 K), (ao, aI G 4 U)]) rfl rfl rfl rfl hl.1 rfl (Nat.le_of_ble_eq_true rfl) dX4_tell_56 ⟨Nat.zero_le _, Nat.zero_le _⟩ (fun H locs hP hD hS => ?_)
        refine W.eq (g2 := F0 m 59 ls [.int ((U jb + nI 100) + U jb)]) rfl ?_
        exact hret _ _ _ _ _ (by first | with_reducible rfl | simp only [s_tell, t_tell, tel, trc, iF_t c1, iF_f c2, iF_t c3, tn_nI (show jb < 2 ^ 31 by omega)]) (by first | exact hP | (simp only [s_tell, t_tell, tel, trc, iF_t c1, iF_f c2, iF_t c3, tn_nI (show jb < 2 ^ 31 by omega)]; exact hP)) hS dX4_tell_59
      ·
        refine lv_lookup (tgt := 60) (off := 38) hx hb dX4_tell_22 (by decide) (by rw [lv_osw (k := 1) c2 (by decide), lv_osw (k := 2) c3 (by decide)]; rfl) (by decide) ?_
        refine lv_aload_n hx hb dX4_tell_60 rfl (lv_at hl 0 rfl) ?_
        refine lv_iload_n hx hb dX4_tell_61 rfl (lv_at hl 1 rfl) ?_
        refine wtV (As := [.int (nI jb)]) (rest := []) (ci := 4) (q0 := 0) hE (kX4_toldByBoy l G x st tr ra sa R tc fl ap ak ao M B U jb (by first | omega | assumption)) (cwV 1 hts gX4_tell_X4_toldByBoy rfl rfl rfl (by decide +kernel) ⟨Nat.le_of_ble_eq_true rfl, Nat.le_of_ble_eq_true rfl⟩) hP hK hD hS [0, 1, 3] (by decide) rfl rfl (W1 := [(x, .inr (4, [.ref st, .ref tr, .ref ra, .int (nI R), .ref sa, .int (lt1 tc (nI 1)), .int fl])), (st, .inr (2, [.ref ap, .ref ak, .ref ao, .int (nI M), .int (nI B)])), (ak, aI G 4 K), (ao, aI G 4 U)]) rfl rfl rfl rfl hl.1 rfl (Nat.le_of_ble_eq_true rfl) dX4_tell_62 ⟨Nat.zero_le _, Nat.zero_le _⟩ (fun H locs hP hD hS => ?_)
        refine W.eq (g2 := F0 m 65 ls [.int (U jb)]) rfl ?_
        exact hret _ _ _ _ _ (by first | with_reducible rfl | simp only [s_tell, t_tell, tel, trc, iF_t c1, iF_f c2, iF_f c3, tn_nI (show jb < 2 ^ 31 by omega)]) (by first | exact hP | (simp only [s_tell, t_tell, tel, trc, iF_t c1, iF_f c2, iF_f c3, tn_nI (show jb < 2 ^ 31 by omega)]; exact hP)) hS dX4_tell_65
  ·
    refine lv_iconst (v := (-1)) hx hb dX4_tell_11 (by decide) ?_
    exact hret _ _ _ _ _ (by first | with_reducible rfl | simp only [s_tell, t_tell, tel, trc, iF_f c1]) (by first | exact hP | (simp only [s_tell, t_tell, tel, trc, iF_f c1]; exact hP)) hS dX4_tell_12

theorem ixX4_call_X4 : ∀ w ∈ wsX40, w ∈ wsX4_call := fun _ h => List.mem_cons_of_mem _ (List.mem_append_left _ (List.mem_append_right _ h))
theorem lkX4_call_12 : Cond.fieldLink RX4 12 (TX4 0).1 (TX4 0).2.1 (TX4 0).2.2.1 ∈ wsX4_call := List.mem_of_getElem? (i := 1) rfl
theorem ixX4_call_X2 : ∀ w ∈ wsX20, w ∈ wsX4_call := fun _ h => List.mem_cons_of_mem _ (List.mem_append_right _ h)
set_option maxHeartbeats 4000000 in
set_option maxRecDepth 100000 in
theorem kX4_call (l : Launch) (G : Gl) (x : Nat) (st : Nat) (tr : Nat) (ra : Nat) (sa : Nat) (R : Nat) (tc : Int32) (fl : Int32) (ap : Nat) (ak : Nat) (ao : Nat) (M : Nat) (B : Nat) (K : Nat → Int32) (b : Int32) (hB : B ≤ 4) : Wt l G yX4_call wsX4_call ({ frames := 1, cells := 0, slots := 0, locals := 21 } : Room) [.ref x, .int b] [(x, .inr (4, [.ref st, .ref tr, .ref ra, .int (nI R), .ref sa, .int tc, .int fl])), (st, .inr (2, [.ref ap, .ref ak, .ref ao, .int (nI M), .int (nI B)])), (ak, aI G 4 K)] [(x, .inr (4, [.ref st, .ref tr, .ref ra, .int (nI R), .ref sa, .int (t_call B K tc b), .int fl])), (st, .inr (2, [.ref ap, .ref ak, .ref ao, .int (nI M), .int (nI B)])), (ak, aI G 4 K)] (some (.int (s_call B K b))) := by
  refine Wt.ofI (cc := cX4_call) (maxL := 2) (by decide) rfl (Nat.le_of_ble_eq_true rfl) ?_
  intro p e s m below meth c Q A ls hE hP hK hD hS hl hret
  obtain ⟨hx, hb, hml, hown, hts⟩ := id hE
  have hl : lv_has ls 2 [(0, .ref x), (1, .int b)] := hl
  refine lv_aload_n hx hb dX4_call_0 rfl (lv_at hl 0 rfl) ?_
  refine g_get (v := .ref st) hx hb hts ixX4_call_X4 hown hK hP 0 rfl rfl 0 (by decide) lkX4_call_12 rfl dX4_call_1 ?_
  refine lv_iload_n hx hb dX4_call_4 rfl (lv_at hl 1 rfl) ?_
  refine rdV (As := [.int b]) (rest := []) (ci := 2) (q0 := 1) hE (kX2_hasBoy l G st ap ak ao M B b hB) (cwV 1 hts gX4_call_X2_hasBoy rfl rfl rfl (by decide +kernel) ⟨Nat.le_of_ble_eq_true rfl, Nat.le_of_ble_eq_true rfl⟩) hP hK [1] rfl rfl rfl rfl hl.1 rfl (Nat.le_of_ble_eq_true rfl) dX4_call_5 ⟨Nat.zero_le _, Nat.zero_le _⟩ ?_
  refine W.eq (g2 := F0 m 8 ls [.int (bI (vp_in b B))]) rfl ?_
  refine bz_ne (tgt := 13) hx hb dX4_call_8 (by decide) (fun c1 => ?_) (fun c1 => ?_)
  ·
    obtain ⟨jb, hjb, rfl⟩ := vp_in_of c1 (by omega)
    refine lv_aload_n hx hb dX4_call_13 rfl (lv_at hl 0 rfl) ?_
    refine g_get (v := .ref st) hx hb hts ixX4_call_X4 hown hK hP 0 rfl rfl 0 (by decide) lkX4_call_12 rfl dX4_call_14 ?_
    refine g_getN (v := .ref ak) hx hb hts ixX4_call_X2 hown hK hP 1 rfl rfl 1 (by decide) nkX4_82 rfl dX4_call_17 ?_
    refine lv_iload_n hx hb dX4_call_20 rfl (lv_at hl 1 rfl) ?_
    refine n_ald hx hb hK hP 2 rfl (k := jb) (by omega) (by decide) dX4_call_21 ?_
    refine lv_iconst (v := nI 2) hx hb dX4_call_22 (by decide) ?_
    refine lv_icmp_ne (tgt := 34) hx hb dX4_call_23 (by decide) (fun c2 => ?_) (fun c2 => ?_)
    ·
      refine lv_aload_n hx hb dX4_call_34 rfl (lv_at hl 0 rfl) ?_
      refine lv_iconst (v := nI 4) hx hb dX4_call_35 (by decide) ?_
      refine wtV (As := [.int (nI 4)]) (rest := []) (ci := 4) (q0 := 0) hE (kX4_leaveTrace l G x st tr ra sa R tc fl (nI 4) ) (cwV 1 hts gX4_call_X4_leaveTrace rfl rfl rfl (by decide +kernel) ⟨Nat.le_of_ble_eq_true rfl, Nat.le_of_ble_eq_true rfl⟩) hP hK hD hS [0] (by decide) rfl rfl (W1 := [(x, .inr (4, [.ref st, .ref tr, .ref ra, .int (nI R), .ref sa, .int (lt1 tc (nI 4)), .int fl])), (st, .inr (2, [.ref ap, .ref ak, .ref ao, .int (nI M), .int (nI B)])), (ak, aI G 4 K)]) rfl rfl rfl rfl hl.1 rfl (Nat.le_of_ble_eq_true rfl) dX4_call_36 ⟨Nat.zero_le _, Nat.zero_le _⟩ (fun H locs hP hD hS => ?_)
      refine W.eq (g2 := F0 m 39 ls []) rfl ?_
      refine lv_iload_n hx hb dX4_call_39 rfl (lv_at hl 1 rfl) ?_
      exact hret _ _ _ _ _ (by first | with_reducible rfl | simp only [s_call, t_call, iF_t c1, iF_f c2, tn_nI (show jb < 2 ^ 31 by omega)]) (by first | exact hP | (simp only [s_call, t_call, iF_t c1, iF_f c2, tn_nI (show jb < 2 ^ 31 by omega)]; exact hP)) hS dX4_call_40
    ·
      refine lv_aload_n hx hb dX4_call_26 rfl (lv_at hl 0 rfl) ?_
      refine lv_iconst (v := nI 5) hx hb dX4_call_27 (by decide) ?_
      refine wtV (As := [.int (nI 5)]) (rest := []) (ci := 4) (q0 := 0) hE (kX4_leaveTrace l G x st tr ra sa R tc fl (nI 5) ) (cwV 1 hts gX4_call_X4_leaveTrace rfl rfl rfl (by decide +kernel) ⟨Nat.le_of_ble_eq_true rfl, Nat.le_of_ble_eq_true rfl⟩) hP hK hD hS [0] (by decide) rfl rfl (W1 := [(x, .inr (4, [.ref st, .ref tr, .ref ra, .int (nI R), .ref sa, .int (lt1 tc (nI 5)), .int fl])), (st, .inr (2, [.ref ap, .ref ak, .ref ao, .int (nI M), .int (nI B)])), (ak, aI G 4 K)]) rfl rfl rfl rfl hl.1 rfl (Nat.le_of_ble_eq_true rfl) dX4_call_28 ⟨Nat.zero_le _, Nat.zero_le _⟩ (fun H locs hP hD hS => ?_)
      refine W.eq (g2 := F0 m 31 ls []) rfl ?_
      refine lv_bipush (v := nI 20) hx hb dX4_call_31 (by decide) ?_
      exact hret _ _ _ _ _ (by first | with_reducible rfl | simp only [s_call, t_call, iF_t c1, iF_t c2, tn_nI (show jb < 2 ^ 31 by omega)]) (by first | exact hP | (simp only [s_call, t_call, iF_t c1, iF_t c2, tn_nI (show jb < 2 ^ 31 by omega)]; exact hP)) hS dX4_call_33
  ·
    refine lv_iconst (v := (-1)) hx hb dX4_call_11 (by decide) ?_
    exact hret _ _ _ _ _ (by first | with_reducible rfl | simp only [s_call, t_call, iF_f c1]) (by first | exact hP | (simp only [s_call, t_call, iF_f c1]; exact hP)) hS dX4_call_12

theorem ixX4_as_X4 : ∀ w ∈ wsX40, w ∈ wsX4_as := fun _ h => List.mem_cons_of_mem _ (List.mem_append_left _ (List.mem_append_right _ h))
theorem lkX4_as_12 : Cond.fieldLink RX4 12 (TX4 0).1 (TX4 0).2.1 (TX4 0).2.2.1 ∈ wsX4_as := List.mem_of_getElem? (i := 1) rfl
theorem ixX4_as_X2 : ∀ w ∈ wsX20, w ∈ wsX4_as := fun _ h => List.mem_cons_of_mem _ (List.mem_append_right _ h)
theorem lkX4_as_40 : Cond.fieldLink RX4 40 (TX4 6).1 (TX4 6).2.1 (TX4 6).2.2.1 ∈ wsX4_as := List.mem_of_getElem? (i := 2) rfl
set_option maxHeartbeats 4000000 in
set_option maxRecDepth 100000 in
theorem kX4_as (l : Launch) (G : Gl) (x : Nat) (st : Nat) (tr : Nat) (ra : Nat) (sa : Nat) (R : Nat) (tc : Int32) (fl : Int32) (ap : Nat) (ak : Nat) (ao : Nat) (M : Nat) (B : Nat) (K : Nat → Int32) (b : Int32) (k : Int32) (hB : B ≤ 4) : Wt l G yX4_as wsX4_as ({ frames := 1, cells := 0, slots := 0, locals := 21 } : Room) [.ref x, .int b, .int k] [(x, .inr (4, [.ref st, .ref tr, .ref ra, .int (nI R), .ref sa, .int tc, .int fl])), (st, .inr (2, [.ref ap, .ref ak, .ref ao, .int (nI M), .int (nI B)])), (ak, aI G 4 K)] [(x, .inr (4, [.ref st, .ref tr, .ref ra, .int (nI R), .ref sa, .int tc, .int (f_as B K b k)])), (st, .inr (2, [.ref ap, .ref ak, .ref ao, .int (nI M), .int (nI B)])), (ak, aI G 4 K)] (some (.int (s_as B K b k))) := by
  refine Wt.ofI (cc := cX4_as) (maxL := 3) (by decide) rfl (Nat.le_of_ble_eq_true rfl) ?_
  intro p e s m below meth c Q A ls hE hP hK hD hS hl hret
  obtain ⟨hx, hb, hml, hown, hts⟩ := id hE
  have hl : lv_has ls 3 [(0, .ref x), (1, .int b), (2, .int k)] := hl
  refine lv_aload_n hx hb dX4_as_0 rfl (lv_at hl 0 rfl) ?_
  refine g_get (v := .ref st) hx hb hts ixX4_as_X4 hown hK hP 0 rfl rfl 0 (by decide) lkX4_as_12 rfl dX4_as_1 ?_
  refine lv_iload_n hx hb dX4_as_4 rfl (lv_at hl 1 rfl) ?_
  refine rdV (As := [.int b]) (rest := []) (ci := 2) (q0 := 1) hE (kX2_hasBoy l G st ap ak ao M B b hB) (cwV 1 hts gX4_as_X2_hasBoy rfl rfl rfl (by decide +kernel) ⟨Nat.le_of_ble_eq_true rfl, Nat.le_of_ble_eq_true rfl⟩) hP hK [1] rfl rfl rfl rfl hl.1 rfl (Nat.le_of_ble_eq_true rfl) dX4_as_5 ⟨Nat.zero_le _, Nat.zero_le _⟩ ?_
  refine W.eq (g2 := F0 m 8 ls [.int (bI (vp_in b B))]) rfl ?_
  refine bz_ne (tgt := 17) hx hb dX4_as_8 (by decide) (fun c1 => ?_) (fun c1 => ?_)
  ·
    obtain ⟨jb, hjb, rfl⟩ := vp_in_of c1 (by omega)
    refine lv_iload_n hx hb dX4_as_17 rfl (lv_at hl 2 rfl) ?_
    refine lv_iconst (v := nI 2) hx hb dX4_as_18 (by decide) ?_
    refine rdS (As := [.int k, .int (nI 2)]) (rest := []) hE (kX4_isWithin l G k 2 (by first | omega | assumption)) (va_cwS 2 hts gX4_as_X4_isWithin rfl rfl rfl (by decide +kernel) ⟨Nat.le_of_ble_eq_true rfl, Nat.le_of_ble_eq_true rfl⟩) hP hK [] rfl rfl hl.1 rfl (Nat.le_of_ble_eq_true rfl) dX4_as_19 ⟨Nat.zero_le _, Nat.zero_le _⟩ ?_
    refine W.eq (g2 := F0 m 22 ls [.int (bI (vp_in k (2 + 1)))]) rfl ?_
    refine bz_ne (tgt := 32) hx hb dX4_as_22 (by decide) (fun c2 => ?_) (fun c2 => ?_)
    ·
      refine lv_iload_n hx hb dX4_as_32 rfl (lv_at hl 2 rfl) ?_
      refine lv_aload_n hx hb dX4_as_33 rfl (lv_at hl 0 rfl) ?_
      refine g_get (v := .ref st) hx hb hts ixX4_as_X4 hown hK hP 0 rfl rfl 0 (by decide) lkX4_as_12 rfl dX4_as_34 ?_
      refine g_getN (v := .ref ak) hx hb hts ixX4_as_X2 hown hK hP 1 rfl rfl 1 (by decide) nkX4_82 rfl dX4_as_37 ?_
      refine lv_iload_n hx hb dX4_as_40 rfl (lv_at hl 1 rfl) ?_
      refine n_ald hx hb hK hP 2 rfl (k := jb) (by omega) (by decide) dX4_as_41 ?_
      refine lv_icmp_le (tgt := 51) hx hb dX4_as_42 (by decide) (fun c3 => ?_) (fun c3 => ?_)
      ·
        refine lv_aload_n hx hb dX4_as_51 rfl (lv_at hl 0 rfl) ?_
        refine lv_iconst (v := nI 0) hx hb dX4_as_52 (by decide) ?_
        refine g_put (v := (nI 0)) hx hb hts ixX4_as_X4 tyX4 tyX4_ok nmX4 hown hK hP hD hS 0 rfl rfl 6 (by decide) lkX4_as_40 rfl rfl (by simp only [List.length_cons, List.length_nil]; omega) dX4_as_53 (fun H locs hP hD hS => ?_)
        have hP : va_P G.1 vwCl [(x, .inr (4, [.ref st, .ref tr, .ref ra, .int (nI R), .ref sa, .int tc, .int (nI 0)])), (st, .inr (2, [.ref ap, .ref ak, .ref ao, .int (nI M), .int (nI B)])), (ak, aI G 4 K)] H := hP
        have hD : va_D A [(x, .inr (4, [.ref st, .ref tr, .ref ra, .int (nI R), .ref sa, .int tc, .int (nI 0)])), (st, .inr (2, [.ref ap, .ref ak, .ref ao, .int (nI M), .int (nI B)])), (ak, aI G 4 K)] := hD
        refine lv_iconst (v := nI 1) hx hb dX4_as_56 (by decide) ?_
        exact hret _ _ _ _ _ (by first | with_reducible rfl | simp only [s_as, f_as, iF_t c1, iF_t c2, iF_t c3, iF_f (i32_le c3), tn_nI (show jb < 2 ^ 31 by omega)]) (by first | exact hP | (simp only [s_as, f_as, iF_t c1, iF_t c2, iF_t c3, iF_f (i32_le c3), tn_nI (show jb < 2 ^ 31 by omega)]; exact hP)) hS dX4_as_57
      ·
        refine lv_aload_n hx hb dX4_as_45 rfl (lv_at hl 0 rfl) ?_
        refine lv_iconst (v := nI 2) hx hb dX4_as_46 (by decide) ?_
        refine wtV (As := [.int (nI 2)]) (rest := []) (ci := 4) (q0 := 0) hE (kX4_faulted l G x st tr ra sa R tc fl (nI 2) ) (cwV 1 hts gX4_as_X4_faulted rfl rfl rfl (by decide +kernel) ⟨Nat.le_of_ble_eq_true rfl, Nat.le_of_ble_eq_true rfl⟩) hP hK hD hS [0] (by decide) rfl rfl (W1 := [(x, .inr (4, [.ref st, .ref tr, .ref ra, .int (nI R), .ref sa, .int tc, .int (nI 2)])), (st, .inr (2, [.ref ap, .ref ak, .ref ao, .int (nI M), .int (nI B)])), (ak, aI G 4 K)]) rfl rfl rfl rfl hl.1 rfl (Nat.le_of_ble_eq_true rfl) dX4_as_47 ⟨Nat.zero_le _, Nat.zero_le _⟩ (fun H locs hP hD hS => ?_)
        refine W.eq (g2 := F0 m 50 ls [.int ((-10) - (nI 2))]) rfl ?_
        exact hret _ _ _ _ _ (by first | with_reducible rfl | simp only [s_as, f_as, iF_t c1, iF_t c2, iF_f c3, iF_t (i32_nle c3), tn_nI (show jb < 2 ^ 31 by omega)]) (by first | exact hP | (simp only [s_as, f_as, iF_t c1, iF_t c2, iF_f c3, iF_t (i32_nle c3), tn_nI (show jb < 2 ^ 31 by omega)]; exact hP)) hS dX4_as_50
    ·
      refine lv_aload_n hx hb dX4_as_25 rfl (lv_at hl 0 rfl) ?_
      refine lv_bipush (v := (-2)) hx hb dX4_as_26 (by decide) ?_
      refine wtV (As := [.int (-2)]) (rest := []) (ci := 4) (q0 := 0) hE (kX4_refused l G x st tr ra sa R tc fl (-2) ) (cwV 1 hts gX4_as_X4_refused rfl rfl rfl (by decide +kernel) ⟨Nat.le_of_ble_eq_true rfl, Nat.le_of_ble_eq_true rfl⟩) hP hK hD hS [0] (by decide) rfl rfl (W1 := [(x, .inr (4, [.ref st, .ref tr, .ref ra, .int (nI R), .ref sa, .int tc, .int (nI 0)])), (st, .inr (2, [.ref ap, .ref ak, .ref ao, .int (nI M), .int (nI B)])), (ak, aI G 4 K)]) rfl rfl rfl rfl hl.1 rfl (Nat.le_of_ble_eq_true rfl) dX4_as_28 ⟨Nat.zero_le _, Nat.zero_le _⟩ (fun H locs hP hD hS => ?_)
      refine W.eq (g2 := F0 m 31 ls [.int (-2)]) rfl ?_
      exact hret _ _ _ _ _ (by first | with_reducible rfl | simp only [s_as, f_as, iF_t c1, iF_f c2, tn_nI (show jb < 2 ^ 31 by omega)]) (by first | exact hP | (simp only [s_as, f_as, iF_t c1, iF_f c2, tn_nI (show jb < 2 ^ 31 by omega)]; exact hP)) hS dX4_as_31
  ·
    refine lv_aload_n hx hb dX4_as_11 rfl (lv_at hl 0 rfl) ?_
    refine lv_iconst (v := (-1)) hx hb dX4_as_12 (by decide) ?_
    refine wtV (As := [.int (-1)]) (rest := []) (ci := 4) (q0 := 0) hE (kX4_refused l G x st tr ra sa R tc fl (-1) ) (cwV 1 hts gX4_as_X4_refused rfl rfl rfl (by decide +kernel) ⟨Nat.le_of_ble_eq_true rfl, Nat.le_of_ble_eq_true rfl⟩) hP hK hD hS [0] (by decide) rfl rfl (W1 := [(x, .inr (4, [.ref st, .ref tr, .ref ra, .int (nI R), .ref sa, .int tc, .int (nI 0)])), (st, .inr (2, [.ref ap, .ref ak, .ref ao, .int (nI M), .int (nI B)])), (ak, aI G 4 K)]) rfl rfl rfl rfl hl.1 rfl (Nat.le_of_ble_eq_true rfl) dX4_as_13 ⟨Nat.zero_le _, Nat.zero_le _⟩ (fun H locs hP hD hS => ?_)
    refine W.eq (g2 := F0 m 16 ls [.int (-1)]) rfl ?_
    exact hret _ _ _ _ _ (by first | with_reducible rfl | simp only [s_as, f_as, iF_f c1]) (by first | exact hP | (simp only [s_as, f_as, iF_f c1]; exact hP)) hS dX4_as_16
