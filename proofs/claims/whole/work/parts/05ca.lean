theorem ixX4_noted_X4 : ∀ w ∈ wsX40, w ∈ wsX4_noted := fun _ h => List.mem_cons_of_mem _ (List.mem_append_left _ (List.mem_append_right _ h))
theorem lkX4_noted_27 : Cond.fieldLink RX4 27 (TX4 3).1 (TX4 3).2.1 (TX4 3).2.2.1 ∈ wsX4_noted := List.mem_of_getElem? (i := 1) rfl
theorem lkX4_noted_23 : Cond.fieldLink RX4 23 (TX4 2).1 (TX4 2).2.1 (TX4 2).2.2.1 ∈ wsX4_noted := List.mem_of_getElem? (i := 2) rfl
set_option maxHeartbeats 4000000 in
set_option maxRecDepth 100000 in
theorem kX4_noted (l : Launch) (G : Gl) (x : Nat) (st : Nat) (tr : Nat) (ra : Nat) (sa : Nat) (R : Nat) (tc : Int32) (fl : Int32) (RA : Nat → Option Nat) (rr : Nat) (f0 : Int32) (f1 : Int32) (f2 : Int32) (f3 : Int32) (a0 : Int32) (a1 : Int32) (a2 : Int32) (a3 : Int32) (hrr : R < 8 → RA R = some rr) (hR : R ≤ 8) : Wt l G yX4_noted wsX4_noted ({ frames := 1, cells := 0, slots := 0, locals := 24 } : Room) [.ref x, .int a0, .int a1, .int a2, .int a3] [(x, .inr (4, [.ref st, .ref tr, .ref ra, .int (nI R), .ref sa, .int tc, .int fl])), (ra, aR G 8 RA), (rr, .inr (0, [.int f0, .int f1, .int f2, .int f3]))] [(x, .inr (4, [.ref st, .ref tr, .ref ra, .int (nI (iF (R < 8) (R + 1) R)), .ref sa, .int tc, .int fl])), (ra, aR G 8 RA), (rr, .inr (0, [.int (iF (R < 8) a0 f0), .int (iF (R < 8) a1 f1), .int (iF (R < 8) a2 f2), .int (iF (R < 8) a3 f3)]))] (some (.int (s_noted R))) := by
  refine Wt.ofI (cc := cX4_noted) (maxL := 5) (by decide) rfl (Nat.le_of_ble_eq_true rfl) ?_
  intro p e s m below meth c Q A ls hE hP hK hD hS hl hret
  obtain ⟨hx, hb, hml, hown, hts⟩ := id hE
  have hl : lv_has ls 5 [(0, .ref x), (1, .int a0), (2, .int a1), (3, .int a2), (4, .int a3)] := hl
  refine lv_aload_n hx hb dX4_noted_0 rfl (lv_at hl 0 rfl) ?_
  refine g_get (v := .int (nI R)) hx hb hts ixX4_noted_X4 hown hK hP 0 rfl rfl 3 (by decide) lkX4_noted_27 rfl dX4_noted_1 ?_
  refine lv_bipush (v := nI 8) hx hb dX4_noted_4 (by decide) ?_
  refine ic_lt (tgt := 12) hx hb (by omega) (by omega) dX4_noted_6 (by decide) (fun c1 => ?_) (fun c1 => ?_)
  ·
    refine lv_aload_n hx hb dX4_noted_12 rfl (lv_at hl 0 rfl) ?_
    refine g_get (v := .ref ra) hx hb hts ixX4_noted_X4 hown hK hP 0 rfl rfl 2 (by decide) lkX4_noted_23 rfl dX4_noted_13 ?_
    refine lv_aload_n hx hb dX4_noted_16 rfl (lv_at hl 0 rfl) ?_
    refine g_get (v := .int (nI R)) hx hb hts ixX4_noted_X4 hown hK hP 0 rfl rfl 3 (by decide) lkX4_noted_27 rfl dX4_noted_17 ?_
    refine n_aldR hx hb hK hP 1 rfl (k := R) (x := rr) (by omega) (by decide) (hrr (by omega)) dX4_noted_20 ?_
    refine lv_iload_n hx hb dX4_noted_21 rfl (lv_at hl 1 rfl) ?_
    refine lv_iload_n hx hb dX4_noted_22 rfl (lv_at hl 2 rfl) ?_
    refine lv_iload_n hx hb dX4_noted_23 rfl (lv_at hl 3 rfl) ?_
    refine lv_iload hx hb dX4_noted_24 (lv_at hl 4 rfl) ?_
    refine wtV (As := [.int a0, .int a1, .int a2, .int a3]) (rest := []) (ci := 0) (q0 := 2) hE (kX0_note l G rr f0 f1 f2 f3 a0 a1 a2 a3 ) (cwV 4 hts gX4_noted_X0_note rfl rfl rfl (by decide +kernel) ⟨Nat.le_of_ble_eq_true rfl, Nat.le_of_ble_eq_true rfl⟩) hP hK hD hS [2] (by decide) rfl (Eq.trans (b := [rr]) rfl rfl) (W1 := [(x, .inr (4, [.ref st, .ref tr, .ref ra, .int (nI R), .ref sa, .int tc, .int fl])), (ra, aR G 8 RA), (rr, .inr (0, [.int a0, .int a1, .int a2, .int a3]))]) rfl rfl rfl rfl hl.1 rfl (Nat.le_of_ble_eq_true rfl) dX4_noted_26 ⟨Nat.zero_le _, Nat.zero_le _⟩ (fun H locs hP hD hS => ?_)
    refine W.eq (g2 := F0 m 29 ls []) rfl ?_
    refine lv_aload_n hx hb dX4_noted_29 rfl (lv_at hl 0 rfl) ?_
    refine lv_dup hx hb dX4_noted_30 rfl ?_
    refine g_get (v := .int (nI R)) hx hb hts ixX4_noted_X4 hown hK hP 0 rfl rfl 3 (by decide) lkX4_noted_27 rfl dX4_noted_31 ?_
    refine lv_iconst (v := nI 1) hx hb dX4_noted_34 (by decide) ?_
    refine lv_iadd hx hb dX4_noted_35 ?_
    refine lv_tope (show (nI R) + (nI 1) = nI (R + 1) from nI_add _ _) ?_
    refine g_put (v := (nI (R + 1))) hx hb hts ixX4_noted_X4 tyX4 tyX4_ok nmX4 hown hK hP hD hS 0 rfl rfl 3 (by decide) lkX4_noted_27 rfl rfl (Nat.le_of_ble_eq_true rfl) dX4_noted_36 (fun H locs hP hD hS => ?_)
    have hP : va_P G.1 vwCl [(x, .inr (4, [.ref st, .ref tr, .ref ra, .int (nI (R + 1)), .ref sa, .int tc, .int fl])), (ra, aR G 8 RA), (rr, .inr (0, [.int a0, .int a1, .int a2, .int a3]))] H := hP
    have hD : va_D A [(x, .inr (4, [.ref st, .ref tr, .ref ra, .int (nI (R + 1)), .ref sa, .int tc, .int fl])), (ra, aR G 8 RA), (rr, .inr (0, [.int a0, .int a1, .int a2, .int a3]))] := hD
    refine lv_aload_n hx hb dX4_noted_39 rfl (lv_at hl 0 rfl) ?_
    refine g_get (v := .int (nI (R + 1))) hx hb hts ixX4_noted_X4 hown hK hP 0 rfl rfl 3 (by decide) lkX4_noted_27 rfl dX4_noted_40 ?_
    refine lv_iconst (v := nI 1) hx hb dX4_noted_43 (by decide) ?_
    refine lv_isub hx hb dX4_noted_44 ?_
    refine lv_tope (show (nI (R + 1)) - (nI 1) = nI ((R + 1) - 1) from pk_sub (by omega)) ?_
    exact hret _ _ _ _ _ (by simp only [s_noted, s_noted, iF_t c1, Nat.add_sub_cancel]) (by first | with_reducible exact hP | (simp only [s_noted, iF_t c1]; with_reducible exact hP) | contradiction | (simp only [s_noted, iF_t c1]; exact hP) | exact hP) hS dX4_noted_45
  ·
    refine lv_bipush (v := (-4)) hx hb dX4_noted_9 (by decide) ?_
    exact hret _ _ _ _ _ (by first | with_reducible rfl | (simp only [s_noted, iF_f (Nat.not_lt.mpr c1)]; done) | contradiction) (by first | with_reducible exact hP | (simp only [s_noted, iF_f (Nat.not_lt.mpr c1)]; with_reducible exact hP) | contradiction | (simp only [s_noted, iF_f (Nat.not_lt.mpr c1)]; exact hP) | exact hP) hS dX4_noted_11

theorem ixX4_reading_X4 : ∀ w ∈ wsX40, w ∈ wsX4_reading := fun _ h => List.mem_cons_of_mem _ (List.mem_append_left _ (List.mem_append_left _ (List.mem_append_right _ h)))
theorem lkX4_reading_12 : Cond.fieldLink RX4 12 (TX4 0).1 (TX4 0).2.1 (TX4 0).2.2.1 ∈ wsX4_reading := List.mem_of_getElem? (i := 1) rfl
set_option maxHeartbeats 4000000 in
set_option maxRecDepth 100000 in
theorem kX4_reading (l : Launch) (G : Gl) (x : Nat) (st : Nat) (tr : Nat) (ra : Nat) (sa : Nat) (R : Nat) (tc : Int32) (fl : Int32) (ap : Nat) (ak : Nat) (ao : Nat) (M : Nat) (B : Nat) (RA : Nat → Option Nat) (rr : Nat) (f0 : Int32) (f1 : Int32) (f2 : Int32) (f3 : Int32) (b : Int32) (n : Int32) (m0 : Int32) (hM : M ≤ 5) (hB : B ≤ 4) (hrr : R < 8 → RA R = some rr) (hR : R ≤ 8) : Wt l G yX4_reading wsX4_reading ({ frames := 2, cells := 0, slots := 0, locals := 48 } : Room) [.ref x, .int b, .int n, .int m0] [(x, .inr (4, [.ref st, .ref tr, .ref ra, .int (nI R), .ref sa, .int tc, .int fl])), (st, .inr (2, [.ref ap, .ref ak, .ref ao, .int (nI M), .int (nI B)])), (ra, aR G 8 RA), (rr, .inr (0, [.int f0, .int f1, .int f2, .int f3]))] [(x, .inr (4, [.ref st, .ref tr, .ref ra, .int (nI (rdG B M R b n m0 (R + 1) R)), .ref sa, .int tc, .int fl])), (st, .inr (2, [.ref ap, .ref ak, .ref ao, .int (nI M), .int (nI B)])), (ra, aR G 8 RA), (rr, .inr (0, [.int (rdG B M R b n m0 b f0), .int (rdG B M R b n m0 n f1), .int (rdG B M R b n m0 m0 f2), .int (rdG B M R b n m0 (-1) f3)]))] (some (.int (s_read B M R b n m0))) := by
  refine Wt.ofI (cc := cX4_reading) (maxL := 4) (by decide) rfl (Nat.le_of_ble_eq_true rfl) ?_
  intro p e s m below meth c Q A ls hE hP hK hD hS hl hret
  obtain ⟨hx, hb, hml, hown, hts⟩ := id hE
  have hl : lv_has ls 4 [(0, .ref x), (1, .int b), (2, .int n), (3, .int m0)] := hl
  refine lv_aload_n hx hb dX4_reading_0 rfl (lv_at hl 0 rfl) ?_
  refine g_get (v := .ref st) hx hb hts ixX4_reading_X4 hown hK hP 0 rfl rfl 0 (by decide) lkX4_reading_12 rfl dX4_reading_1 ?_
  refine lv_iload_n hx hb dX4_reading_4 rfl (lv_at hl 1 rfl) ?_
  refine rdV (As := [.int b]) (rest := []) (ci := 2) (q0 := 1) hE (kX2_hasBoy l G st ap ak ao M B b hB) (cwV 1 hts gX4_reading_X2_hasBoy rfl rfl rfl (by decide +kernel) ⟨Nat.le_of_ble_eq_true rfl, Nat.le_of_ble_eq_true rfl⟩) hP hK [1] rfl rfl rfl rfl hl.1 rfl (Nat.le_of_ble_eq_true rfl) dX4_reading_5 ⟨Nat.zero_le _, Nat.zero_le _⟩ ?_
  refine W.eq (g2 := F0 m 8 ls [.int (bI (vp_in b B))]) rfl ?_
  refine bz_eq (tgt := 22) hx hb dX4_reading_8 (by decide) (fun c1 => ?_) (fun c1 => ?_)
  ·
    refine lv_iconst (v := (-1)) hx hb dX4_reading_22 (by decide) ?_
    exact hret _ _ _ _ _ (by first | with_reducible rfl | (simp only [s_read, rdG, iF_f c1]; done) | contradiction) (by first | with_reducible exact hP | (simp only [s_read, rdG, iF_f c1]; with_reducible exact hP) | contradiction | (simp only [s_read, rdG, iF_f c1]; exact hP) | exact hP) hS dX4_reading_23
  ·
    refine lv_aload_n hx hb dX4_reading_11 rfl (lv_at hl 0 rfl) ?_
    refine g_get (v := .ref st) hx hb hts ixX4_reading_X4 hown hK hP 0 rfl rfl 0 (by decide) lkX4_reading_12 rfl dX4_reading_12 ?_
    refine lv_iload_n hx hb dX4_reading_15 rfl (lv_at hl 3 rfl) ?_
    refine rdV (As := [.int m0]) (rest := []) (ci := 2) (q0 := 1) hE (kX2_hasMaster l G st ap ak ao M B m0 hM) (cwV 1 hts gX4_reading_X2_hasMaster rfl rfl rfl (by decide +kernel) ⟨Nat.le_of_ble_eq_true rfl, Nat.le_of_ble_eq_true rfl⟩) hP hK [1] rfl rfl rfl rfl hl.1 rfl (Nat.le_of_ble_eq_true rfl) dX4_reading_16 ⟨Nat.zero_le _, Nat.zero_le _⟩ ?_
    refine W.eq (g2 := F0 m 19 ls [.int (bI (vp_in m0 M))]) rfl ?_
    refine bz_ne (tgt := 24) hx hb dX4_reading_19 (by decide) (fun c2 => ?_) (fun c2 => ?_)
    ·
      refine lv_iload_n hx hb dX4_reading_24 rfl (lv_at hl 2 rfl) ?_
      refine lv_bipush (v := nI 20) hx hb dX4_reading_25 (by decide) ?_
      refine rdS (As := [.int n, .int (nI 20)]) (rest := []) hE (kX4_isWithin l G n 20 (by first | omega | assumption)) (va_cwS 2 hts gX4_reading_X4_isWithin rfl rfl rfl (by decide +kernel) ⟨Nat.le_of_ble_eq_true rfl, Nat.le_of_ble_eq_true rfl⟩) hP hK [] rfl rfl hl.1 rfl (Nat.le_of_ble_eq_true rfl) dX4_reading_27 ⟨Nat.zero_le _, Nat.zero_le _⟩ ?_
      refine W.eq (g2 := F0 m 30 ls [.int (bI (vp_in n (20 + 1)))]) rfl ?_
      refine bz_ne (tgt := 36) hx hb dX4_reading_30 (by decide) (fun c3 => ?_) (fun c3 => ?_)
      ·
        refine lv_aload_n hx hb dX4_reading_36 rfl (lv_at hl 0 rfl) ?_
        refine lv_iload_n hx hb dX4_reading_37 rfl (lv_at hl 1 rfl) ?_
        refine lv_iload_n hx hb dX4_reading_38 rfl (lv_at hl 2 rfl) ?_
        refine lv_iload_n hx hb dX4_reading_39 rfl (lv_at hl 3 rfl) ?_
        refine lv_iconst (v := (-1)) hx hb dX4_reading_40 (by decide) ?_
        refine wtV (As := [.int b, .int n, .int m0, .int (-1)]) (rest := []) (ci := 4) (q0 := 0) hE (kX4_noted l G x st tr ra sa R tc fl RA rr f0 f1 f2 f3 b n m0 (-1) hrr hR) (cwV 4 hts gX4_reading_X4_noted rfl rfl rfl (by decide +kernel) ⟨Nat.le_of_ble_eq_true rfl, Nat.le_of_ble_eq_true rfl⟩) hP hK hD hS [0, 2, 3] (by decide) rfl (Eq.trans (b := [x, ra, rr]) rfl rfl) (W1 := [(x, .inr (4, [.ref st, .ref tr, .ref ra, .int (nI (iF (R < 8) (R + 1) R)), .ref sa, .int tc, .int fl])), (st, .inr (2, [.ref ap, .ref ak, .ref ao, .int (nI M), .int (nI B)])), (ra, aR G 8 RA), (rr, .inr (0, [.int (iF (R < 8) b f0), .int (iF (R < 8) n f1), .int (iF (R < 8) m0 f2), .int (iF (R < 8) (-1) f3)]))]) rfl rfl rfl rfl hl.1 rfl (Nat.le_of_ble_eq_true rfl) dX4_reading_41 ⟨Nat.zero_le _, Nat.zero_le _⟩ (fun H locs hP hD hS => ?_)
        refine W.eq (g2 := F0 m 44 ls [.int (s_noted R)]) rfl ?_
        exact hret _ _ _ _ _ (by first | with_reducible rfl | (simp only [s_read, rdG, iF_t c1, iF_t c2, iF_t c3]; done) | contradiction) (by first | with_reducible exact hP | (simp only [s_read, rdG, iF_t c1, iF_t c2, iF_t c3]; with_reducible exact hP) | contradiction | (simp only [s_read, rdG, iF_t c1, iF_t c2, iF_t c3]; exact hP) | exact hP) hS dX4_reading_44
      ·
        refine lv_bipush (v := (-2)) hx hb dX4_reading_33 (by decide) ?_
        exact hret _ _ _ _ _ (by first | with_reducible rfl | (simp only [s_read, rdG, iF_t c1, iF_t c2, iF_f c3]; done) | contradiction) (by first | with_reducible exact hP | (simp only [s_read, rdG, iF_t c1, iF_t c2, iF_f c3]; with_reducible exact hP) | contradiction | (simp only [s_read, rdG, iF_t c1, iF_t c2, iF_f c3]; exact hP) | exact hP) hS dX4_reading_35
    ·
      refine lv_iconst (v := (-1)) hx hb dX4_reading_22 (by decide) ?_
      exact hret _ _ _ _ _ (by first | with_reducible rfl | (simp only [s_read, rdG, iF_t c1, iF_f c2]; done) | contradiction) (by first | with_reducible exact hP | (simp only [s_read, rdG, iF_t c1, iF_f c2]; with_reducible exact hP) | contradiction | (simp only [s_read, rdG, iF_t c1, iF_f c2]; exact hP) | exact hP) hS dX4_reading_23

theorem ixX4_exam_X4 : ∀ w ∈ wsX40, w ∈ wsX4_exam := fun _ h => List.mem_cons_of_mem _ (List.mem_append_left _ (List.mem_append_left _ (List.mem_append_right _ h)))
theorem lkX4_exam_12 : Cond.fieldLink RX4 12 (TX4 0).1 (TX4 0).2.1 (TX4 0).2.2.1 ∈ wsX4_exam := List.mem_of_getElem? (i := 1) rfl
set_option maxHeartbeats 4000000 in
set_option maxRecDepth 100000 in
theorem kX4_exam (l : Launch) (G : Gl) (x : Nat) (st : Nat) (tr : Nat) (ra : Nat) (sa : Nat) (R : Nat) (tc : Int32) (fl : Int32) (ap : Nat) (ak : Nat) (ao : Nat) (M : Nat) (B : Nat) (RA : Nat → Option Nat) (rr : Nat) (f0 : Int32) (f1 : Int32) (f2 : Int32) (f3 : Int32) (b : Int32) (n : Int32) (m0 : Int32) (v : Int32) (hM : M ≤ 5) (hB : B ≤ 4) (hrr : R < 8 → RA R = some rr) (hR : R ≤ 8) : Wt l G yX4_exam wsX4_exam ({ frames := 2, cells := 0, slots := 0, locals := 48 } : Room) [.ref x, .int b, .int n, .int m0, .int v] [(x, .inr (4, [.ref st, .ref tr, .ref ra, .int (nI R), .ref sa, .int tc, .int fl])), (st, .inr (2, [.ref ap, .ref ak, .ref ao, .int (nI M), .int (nI B)])), (ra, aR G 8 RA), (rr, .inr (0, [.int f0, .int f1, .int f2, .int f3]))] [(x, .inr (4, [.ref st, .ref tr, .ref ra, .int (nI (exG B M R b n m0 v (R + 1) R)), .ref sa, .int tc, .int fl])), (st, .inr (2, [.ref ap, .ref ak, .ref ao, .int (nI M), .int (nI B)])), (ra, aR G 8 RA), (rr, .inr (0, [.int (exG B M R b n m0 v b f0), .int (exG B M R b n m0 v n f1), .int (exG B M R b n m0 v m0 f2), .int (exG B M R b n m0 v v f3)]))] (some (.int (s_exam B M R b n m0 v))) := by
  refine Wt.ofI (cc := cX4_exam) (maxL := 5) (by decide) rfl (Nat.le_of_ble_eq_true rfl) ?_
  intro p e s m below meth c Q A ls hE hP hK hD hS hl hret
  obtain ⟨hx, hb, hml, hown, hts⟩ := id hE
  have hl : lv_has ls 5 [(0, .ref x), (1, .int b), (2, .int n), (3, .int m0), (4, .int v)] := hl
  refine lv_aload_n hx hb dX4_exam_0 rfl (lv_at hl 0 rfl) ?_
  refine g_get (v := .ref st) hx hb hts ixX4_exam_X4 hown hK hP 0 rfl rfl 0 (by decide) lkX4_exam_12 rfl dX4_exam_1 ?_
  refine lv_iload_n hx hb dX4_exam_4 rfl (lv_at hl 1 rfl) ?_
  refine rdV (As := [.int b]) (rest := []) (ci := 2) (q0 := 1) hE (kX2_hasBoy l G st ap ak ao M B b hB) (cwV 1 hts gX4_exam_X2_hasBoy rfl rfl rfl (by decide +kernel) ⟨Nat.le_of_ble_eq_true rfl, Nat.le_of_ble_eq_true rfl⟩) hP hK [1] rfl rfl rfl rfl hl.1 rfl (Nat.le_of_ble_eq_true rfl) dX4_exam_5 ⟨Nat.zero_le _, Nat.zero_le _⟩ ?_
  refine W.eq (g2 := F0 m 8 ls [.int (bI (vp_in b B))]) rfl ?_
  refine bz_eq (tgt := 22) hx hb dX4_exam_8 (by decide) (fun c1 => ?_) (fun c1 => ?_)
  ·
    refine lv_iconst (v := (-1)) hx hb dX4_exam_22 (by decide) ?_
    exact hret _ _ _ _ _ (by first | with_reducible rfl | (simp only [s_exam, exG, iF_f c1]; done) | contradiction) (by first | with_reducible exact hP | (simp only [s_exam, exG, iF_f c1]; with_reducible exact hP) | contradiction | (simp only [s_exam, exG, iF_f c1]; exact hP) | exact hP) hS dX4_exam_23
  ·
    refine lv_aload_n hx hb dX4_exam_11 rfl (lv_at hl 0 rfl) ?_
    refine g_get (v := .ref st) hx hb hts ixX4_exam_X4 hown hK hP 0 rfl rfl 0 (by decide) lkX4_exam_12 rfl dX4_exam_12 ?_
    refine lv_iload_n hx hb dX4_exam_15 rfl (lv_at hl 3 rfl) ?_
    refine rdV (As := [.int m0]) (rest := []) (ci := 2) (q0 := 1) hE (kX2_hasMaster l G st ap ak ao M B m0 hM) (cwV 1 hts gX4_exam_X2_hasMaster rfl rfl rfl (by decide +kernel) ⟨Nat.le_of_ble_eq_true rfl, Nat.le_of_ble_eq_true rfl⟩) hP hK [1] rfl rfl rfl rfl hl.1 rfl (Nat.le_of_ble_eq_true rfl) dX4_exam_16 ⟨Nat.zero_le _, Nat.zero_le _⟩ ?_
    refine W.eq (g2 := F0 m 19 ls [.int (bI (vp_in m0 M))]) rfl ?_
    refine bz_ne (tgt := 24) hx hb dX4_exam_19 (by decide) (fun c2 => ?_) (fun c2 => ?_)
    ·
      refine lv_iload_n hx hb dX4_exam_24 rfl (lv_at hl 2 rfl) ?_
      refine lv_bipush (v := nI 20) hx hb dX4_exam_25 (by decide) ?_
      refine rdS (As := [.int n, .int (nI 20)]) (rest := []) hE (kX4_isWithin l G n 20 (by first | omega | assumption)) (va_cwS 2 hts gX4_exam_X4_isWithin rfl rfl rfl (by decide +kernel) ⟨Nat.le_of_ble_eq_true rfl, Nat.le_of_ble_eq_true rfl⟩) hP hK [] rfl rfl hl.1 rfl (Nat.le_of_ble_eq_true rfl) dX4_exam_27 ⟨Nat.zero_le _, Nat.zero_le _⟩ ?_
      refine W.eq (g2 := F0 m 30 ls [.int (bI (vp_in n (20 + 1)))]) rfl ?_
      refine bz_eq (tgt := 43) hx hb dX4_exam_30 (by decide) (fun c3 => ?_) (fun c3 => ?_)
      ·
        refine lv_bipush (v := (-2)) hx hb dX4_exam_43 (by decide) ?_
        exact hret _ _ _ _ _ (by first | with_reducible rfl | (simp only [s_exam, exG, iF_t c1, iF_t c2, iF_f c3]; done) | contradiction) (by first | with_reducible exact hP | (simp only [s_exam, exG, iF_t c1, iF_t c2, iF_f c3]; with_reducible exact hP) | contradiction | (simp only [s_exam, exG, iF_t c1, iF_t c2, iF_f c3]; exact hP) | exact hP) hS dX4_exam_45
      ·
        refine lv_iload hx hb dX4_exam_33 (lv_at hl 4 rfl) ?_
        refine lv_bipush (v := nI 40) hx hb dX4_exam_35 (by decide) ?_
        refine rdS (As := [.int v, .int (nI 40)]) (rest := []) hE (kX4_isWithin l G v 40 (by first | omega | assumption)) (va_cwS 2 hts gX4_exam_X4_isWithin rfl rfl rfl (by decide +kernel) ⟨Nat.le_of_ble_eq_true rfl, Nat.le_of_ble_eq_true rfl⟩) hP hK [] rfl rfl hl.1 rfl (Nat.le_of_ble_eq_true rfl) dX4_exam_37 ⟨Nat.zero_le _, Nat.zero_le _⟩ ?_
        refine W.eq (g2 := F0 m 40 ls [.int (bI (vp_in v (40 + 1)))]) rfl ?_
        refine bz_ne (tgt := 46) hx hb dX4_exam_40 (by decide) (fun c4 => ?_) (fun c4 => ?_)
        ·
          refine lv_aload_n hx hb dX4_exam_46 rfl (lv_at hl 0 rfl) ?_
          refine lv_iload_n hx hb dX4_exam_47 rfl (lv_at hl 1 rfl) ?_
          refine lv_iload_n hx hb dX4_exam_48 rfl (lv_at hl 2 rfl) ?_
          refine lv_iload_n hx hb dX4_exam_49 rfl (lv_at hl 3 rfl) ?_
          refine lv_iload hx hb dX4_exam_50 (lv_at hl 4 rfl) ?_
          refine wtV (As := [.int b, .int n, .int m0, .int v]) (rest := []) (ci := 4) (q0 := 0) hE (kX4_noted l G x st tr ra sa R tc fl RA rr f0 f1 f2 f3 b n m0 v hrr hR) (cwV 4 hts gX4_exam_X4_noted rfl rfl rfl (by decide +kernel) ⟨Nat.le_of_ble_eq_true rfl, Nat.le_of_ble_eq_true rfl⟩) hP hK hD hS [0, 2, 3] (by decide) rfl (Eq.trans (b := [x, ra, rr]) rfl rfl) (W1 := [(x, .inr (4, [.ref st, .ref tr, .ref ra, .int (nI (iF (R < 8) (R + 1) R)), .ref sa, .int tc, .int fl])), (st, .inr (2, [.ref ap, .ref ak, .ref ao, .int (nI M), .int (nI B)])), (ra, aR G 8 RA), (rr, .inr (0, [.int (iF (R < 8) b f0), .int (iF (R < 8) n f1), .int (iF (R < 8) m0 f2), .int (iF (R < 8) v f3)]))]) rfl rfl rfl rfl hl.1 rfl (Nat.le_of_ble_eq_true rfl) dX4_exam_52 ⟨Nat.zero_le _, Nat.zero_le _⟩ (fun H locs hP hD hS => ?_)
          refine W.eq (g2 := F0 m 55 ls [.int (s_noted R)]) rfl ?_
          exact hret _ _ _ _ _ (by first | with_reducible rfl | (simp only [s_exam, exG, iF_t c1, iF_t c2, iF_t c3, iF_t c4]; done) | contradiction) (by first | with_reducible exact hP | (simp only [s_exam, exG, iF_t c1, iF_t c2, iF_t c3, iF_t c4]; with_reducible exact hP) | contradiction | (simp only [s_exam, exG, iF_t c1, iF_t c2, iF_t c3, iF_t c4]; exact hP) | exact hP) hS dX4_exam_55
        ·
          refine lv_bipush (v := (-2)) hx hb dX4_exam_43 (by decide) ?_
          exact hret _ _ _ _ _ (by first | with_reducible rfl | (simp only [s_exam, exG, iF_t c1, iF_t c2, iF_t c3, iF_f c4]; done) | contradiction) (by first | with_reducible exact hP | (simp only [s_exam, exG, iF_t c1, iF_t c2, iF_t c3, iF_f c4]; with_reducible exact hP) | contradiction | (simp only [s_exam, exG, iF_t c1, iF_t c2, iF_t c3, iF_f c4]; exact hP) | exact hP) hS dX4_exam_45
    ·
      refine lv_iconst (v := (-1)) hx hb dX4_exam_22 (by decide) ?_
      exact hret _ _ _ _ _ (by first | with_reducible rfl | (simp only [s_exam, exG, iF_t c1, iF_f c2]; done) | contradiction) (by first | with_reducible exact hP | (simp only [s_exam, exG, iF_t c1, iF_f c2]; with_reducible exact hP) | contradiction | (simp only [s_exam, exG, iF_t c1, iF_f c2]; exact hP) | exact hP) hS dX4_exam_23

theorem ixX4_back_X4 : ∀ w ∈ wsX40, w ∈ wsX4_back := fun _ h => List.mem_cons_of_mem _ (List.mem_append_right _ h)
theorem lkX4_back_27 : Cond.fieldLink RX4 27 (TX4 3).1 (TX4 3).2.1 (TX4 3).2.2.1 ∈ wsX4_back := List.mem_of_getElem? (i := 1) rfl
set_option maxHeartbeats 4000000 in
set_option maxRecDepth 100000 in
theorem kX4_back (l : Launch) (G : Gl) (x : Nat) (st : Nat) (tr : Nat) (ra : Nat) (sa : Nat) (R : Nat) (tc : Int32) (fl : Int32) (k : Int32) (hR : R ≤ 8) : Wt l G yX4_back wsX4_back ({ frames := 1, cells := 0, slots := 0, locals := 21 } : Room) [.ref x, .int k] [(x, .inr (4, [.ref st, .ref tr, .ref ra, .int (nI R), .ref sa, .int tc, .int fl]))] [(x, .inr (4, [.ref st, .ref tr, .ref ra, .int (nI (r_back R k)), .ref sa, .int tc, .int fl]))] (some (.int (s_back R k))) := by
  refine Wt.ofI (cc := cX4_back) (maxL := 2) (by decide) rfl (Nat.le_of_ble_eq_true rfl) ?_
  intro p e s m below meth c Q A ls hE hP hK hD hS hl hret
  obtain ⟨hx, hb, hml, hown, hts⟩ := id hE
  have hl : lv_has ls 2 [(0, .ref x), (1, .int k)] := hl
  refine lv_iload_n hx hb dX4_back_0 rfl (lv_at hl 1 rfl) ?_
  refine lv_aload_n hx hb dX4_back_1 rfl (lv_at hl 0 rfl) ?_
  refine g_get (v := .int (nI R)) hx hb hts ixX4_back_X4 hown hK hP 0 rfl rfl 3 (by decide) lkX4_back_27 rfl dX4_back_2 ?_
  refine rdS (As := [.int k, .int (nI R)]) (rest := []) hE (kX4_isWithin l G k R (by first | omega | assumption)) (va_cwS 2 hts gX4_back_X4_isWithin rfl rfl rfl (by decide +kernel) ⟨Nat.le_of_ble_eq_true rfl, Nat.le_of_ble_eq_true rfl⟩) hP hK [] rfl rfl hl.1 rfl (Nat.le_of_ble_eq_true rfl) dX4_back_5 ⟨Nat.zero_le _, Nat.zero_le _⟩ ?_
  refine W.eq (g2 := F0 m 8 ls [.int (bI (vp_in k (R + 1)))]) rfl ?_
  refine bz_ne (tgt := 14) hx hb dX4_back_8 (by decide) (fun c1 => ?_) (fun c1 => ?_)
  ·
    obtain ⟨jk, hjk, rfl⟩ := vp_in_of c1 (by omega)
    refine lv_aload_n hx hb dX4_back_14 rfl (lv_at hl 0 rfl) ?_
    refine lv_dup hx hb dX4_back_15 rfl ?_
    refine g_get (v := .int (nI R)) hx hb hts ixX4_back_X4 hown hK hP 0 rfl rfl 3 (by decide) lkX4_back_27 rfl dX4_back_16 ?_
    refine lv_iload_n hx hb dX4_back_19 rfl (lv_at hl 1 rfl) ?_
    refine lv_isub hx hb dX4_back_20 ?_
    refine lv_tope (show (nI R) - (nI jk) = nI (R - jk) from pk_sub (by omega)) ?_
    refine g_put (v := (nI (R - jk))) hx hb hts ixX4_back_X4 tyX4 tyX4_ok nmX4 hown hK hP hD hS 0 rfl rfl 3 (by decide) lkX4_back_27 rfl rfl (Nat.le_of_ble_eq_true rfl) dX4_back_21 (fun H locs hP hD hS => ?_)
    have hP : va_P G.1 vwCl [(x, .inr (4, [.ref st, .ref tr, .ref ra, .int (nI (R - jk)), .ref sa, .int tc, .int fl]))] H := hP
    have hD : va_D A [(x, .inr (4, [.ref st, .ref tr, .ref ra, .int (nI (R - jk)), .ref sa, .int tc, .int fl]))] := hD
    refine lv_aload_n hx hb dX4_back_24 rfl (lv_at hl 0 rfl) ?_
    refine g_get (v := .int (nI (R - jk))) hx hb hts ixX4_back_X4 hown hK hP 0 rfl rfl 3 (by decide) lkX4_back_27 rfl dX4_back_25 ?_
    exact hret _ _ _ _ _ (by first | with_reducible rfl | (simp only [s_back, r_back, iF_t c1, tn_nI (show jk < 2 ^ 31 by omega)]; done) | contradiction) (by first | with_reducible exact hP | (simp only [s_back, r_back, iF_t c1, tn_nI (show jk < 2 ^ 31 by omega)]; with_reducible exact hP) | contradiction | (simp only [s_back, r_back, iF_t c1, tn_nI (show jk < 2 ^ 31 by omega)]; exact hP) | exact hP) hS dX4_back_28
  ·
    refine lv_bipush (v := (-2)) hx hb dX4_back_11 (by decide) ?_
    exact hret _ _ _ _ _ (by first | with_reducible rfl | (simp only [s_back, r_back, iF_f c1]; done) | contradiction) (by first | with_reducible exact hP | (simp only [s_back, r_back, iF_f c1]; with_reducible exact hP) | contradiction | (simp only [s_back, r_back, iF_f c1]; exact hP) | exact hP) hS dX4_back_13

theorem ixX4_bitIfTrialFits_X4 : ∀ w ∈ wsX40, w ∈ wsX4_bitIfTrialFits := fun _ h => List.mem_cons_of_mem _ (List.mem_append_left _ (List.mem_append_left _ (List.mem_append_right _ h)))
theorem lkX4_bitIfTrialFits_27 : Cond.fieldLink RX4 27 (TX4 3).1 (TX4 3).2.1 (TX4 3).2.2.1 ∈ wsX4_bitIfTrialFits := List.mem_of_getElem? (i := 1) rfl
theorem lkX4_bitIfTrialFits_23 : Cond.fieldLink RX4 23 (TX4 2).1 (TX4 2).2.1 (TX4 2).2.2.1 ∈ wsX4_bitIfTrialFits := List.mem_of_getElem? (i := 2) rfl
theorem lkX4_bitIfTrialFits_18 : Cond.fieldLink RX4 18 (TX4 1).1 (TX4 1).2.1 (TX4 1).2.2.1 ∈ wsX4_bitIfTrialFits := List.mem_of_getElem? (i := 3) rfl
set_option maxHeartbeats 4000000 in
set_option maxRecDepth 100000 in
theorem kX4_bitIfTrialFits (l : Launch) (G : Gl) (x : Nat) (st : Nat) (tr : Nat) (ra : Nat) (sa : Nat) (R : Nat) (tc : Int32) (fl : Int32) (RA : Nat → Option Nat) (rr : Nat → Nat) (W1 : Nat → Int32) (N1 : Nat → Int32) (M1 : Nat → Int32) (K1 : Nat → Int32) (tp : Nat) (tk : Nat) (to : Nat) (M : Nat) (B : Nat) (P : Nat → Int32) (K : Nat → Int32) (U : Nat → Int32) (q : Nat) (hM : M ≤ 5) (hB : B ≤ 4) (hR : R ≤ 8) (hz : ∀ j, j < M → P (j * 5 + j) = nI 0) (hU : ∀ b, b < B → vp_in (U b) M) (hra : ∀ q, q < 8 → RA q = some (rr q)) (hrd : ∀ q, q < R → vp_in (W1 q) B ∧ vp_in (N1 q) (20 + 1) ∧ vp_in (M1 q) M) : Rd l G yX4_bitIfTrialFits wsX4_bitIfTrialFits ({ frames := 5, cells := 0, slots := 0, locals := 113 } : Room) [.ref x, .int (nI q)] [(x, .inr (4, [.ref st, .ref tr, .ref ra, .int (nI R), .ref sa, .int tc, .int fl])), (ra, aR G 8 RA), (tr, .inr (2, [.ref tp, .ref tk, .ref to, .int (nI M), .int (nI B)])), (tp, aI G 25 P), (tk, aI G 4 K), (to, aI G 4 U), (rr 0, .inr (0, [.int (W1 0), .int (N1 0), .int (M1 0), .int (K1 0)])), (rr 1, .inr (0, [.int (W1 1), .int (N1 1), .int (M1 1), .int (K1 1)])), (rr 2, .inr (0, [.int (W1 2), .int (N1 2), .int (M1 2), .int (K1 2)])), (rr 3, .inr (0, [.int (W1 3), .int (N1 3), .int (M1 3), .int (K1 3)])), (rr 4, .inr (0, [.int (W1 4), .int (N1 4), .int (M1 4), .int (K1 4)])), (rr 5, .inr (0, [.int (W1 5), .int (N1 5), .int (M1 5), .int (K1 5)])), (rr 6, .inr (0, [.int (W1 6), .int (N1 6), .int (M1 6), .int (K1 6)])), (rr 7, .inr (0, [.int (W1 7), .int (N1 7), .int (M1 7), .int (K1 7)]))] (some (.int (iF (alls (-1) P M K U W1 N1 M1 K1 R) (nI 1 <<< (nI q &&& 31)) (nI 0)))) := by
  refine Rd.ofI (cc := cX4_bitIfTrialFits) (maxL := 3) (by decide) rfl (Nat.le_of_ble_eq_true rfl) ?_
  intro p e s m below meth c Q ls hE hP hK hl hret
  obtain ⟨hx, hb, hml, hown, hts⟩ := id hE
  have hl : lv_has ls 3 [(0, .ref x), (1, .int (nI q))] := hl
  refine lv_iconst (v := nI 0) hx hb dX4_bitIfTrialFits_0 (by decide) ?_
  refine lv_istore_n (lv' := [(2, .int (nI 0)), (0, .ref x), (1, .int (nI q))]) hx hb dX4_bitIfTrialFits_1 rfl hl (by decide) rfl (fun ls hl => ?_)
  have loop1 : ∀ (d k : Nat) (ls : Array Slot), R < k + d → k ≤ R → (fi (fun q => ¬ isS (-1) P M K U (tn (W1 q)) (tn (N1 q)) (tn (M1 q)) (K1 q)) k = none) → lv_has ls 3 [(2, .int (nI k)), (0, .ref x), (1, .int (nI q))] → W p l e ({ frames := 5, cells := 0, slots := 0, locals := 113 } : Room) s m ([.ref x, .int (nI q)] : List Value).toArray below meth c s.heap [] 0 0 Q (F0 m 2 ls []) := by
    intro d
    induction d with
    | zero =>
      intro k ls h1 h2
      omega
    | succ d ih1 =>
      intro k ls hdk hbk hk hl
      refine lv_iload_n hx hb dX4_bitIfTrialFits_2 rfl (lv_at hl 0 rfl) ?_
      refine lv_aload_n hx hb dX4_bitIfTrialFits_3 rfl (lv_at hl 1 rfl) ?_
      refine g_get (v := .int (nI R)) hx hb hts ixX4_bitIfTrialFits_X4 hown hK hP 0 rfl rfl 3 (by decide) lkX4_bitIfTrialFits_27 rfl dX4_bitIfTrialFits_4 ?_
      refine ic_ge (tgt := 34) hx hb (by omega) (by omega) dX4_bitIfTrialFits_7 (by decide) (fun c1 => ?_) (fun c1 => ?_)
      ·
        obtain rfl : R = k := by omega
        refine lv_iconst (v := nI 1) hx hb dX4_bitIfTrialFits_34 (by decide) ?_
        refine lv_iload_n hx hb dX4_bitIfTrialFits_35 rfl (lv_at hl 2 rfl) ?_
        refine lv_ishl hx hb dX4_bitIfTrialFits_36 ?_
        exact hret _ _ _ ((iF_t (show alls (-1) P M K U W1 N1 M1 K1 R from hk)).symm) dX4_bitIfTrialFits_37
      ·
        refine lv_aload_n hx hb dX4_bitIfTrialFits_10 rfl (lv_at hl 1 rfl) ?_
        refine g_get (v := .ref ra) hx hb hts ixX4_bitIfTrialFits_X4 hown hK hP 0 rfl rfl 2 (by decide) lkX4_bitIfTrialFits_23 rfl dX4_bitIfTrialFits_11 ?_
        refine lv_iload_n hx hb dX4_bitIfTrialFits_14 rfl (lv_at hl 0 rfl) ?_
        refine n_aldR hx hb hK hP 1 rfl (k := k) (x := rr k) (by omega) (by decide) (hra k (by omega)) dX4_bitIfTrialFits_15 ?_
        refine lv_aload_n hx hb dX4_bitIfTrialFits_16 rfl (lv_at hl 1 rfl) ?_
        refine g_get (v := .ref tr) hx hb hts ixX4_bitIfTrialFits_X4 hown hK hP 0 rfl rfl 1 (by decide) lkX4_bitIfTrialFits_18 rfl dX4_bitIfTrialFits_17 ?_
        refine rdV (As := [.ref tr]) (rest := []) (ci := 0) (q0 := 6 + k) (fs := [.int (W1 k), .int (N1 k), .int (M1 k), .int (K1 k)]) hE (kX0_isSoIn l G (rr k) (W1 k) (N1 k) (M1 k) (K1 k) tr tp tk to M B P K U hM hB ((hrd k (by omega)).1) ((hrd k (by omega)).2.1) ((hrd k (by omega)).2.2) (hU _ (tn_lt (hrd k (by omega)).1 (by omega))) hz) (cwV 1 hts gX4_bitIfTrialFits_X0_isSoIn rfl rfl rfl (by decide +kernel) ⟨Nat.le_of_ble_eq_true rfl, Nat.le_of_ble_eq_true rfl⟩) hP hK [6 + k, 2, 3, 4, 5] (by rcases (show k = 0 ∨ k = 1 ∨ k = 2 ∨ k = 3 ∨ k = 4 ∨ k = 5 ∨ k = 6 ∨ k = 7 by omega) with rfl | rfl | rfl | rfl | rfl | rfl | rfl | rfl <;> rfl) rfl (by rcases (show k = 0 ∨ k = 1 ∨ k = 2 ∨ k = 3 ∨ k = 4 ∨ k = 5 ∨ k = 6 ∨ k = 7 by omega) with rfl | rfl | rfl | rfl | rfl | rfl | rfl | rfl <;> rfl) rfl hl.1 rfl (Nat.le_of_ble_eq_true rfl) dX4_bitIfTrialFits_20 ⟨Nat.zero_le _, Nat.zero_le _⟩ ?_
        refine W.eq (g2 := F0 m 23 ls [.int (bI (isS (-1) P M K U (tn (W1 k)) (tn (N1 k)) (tn (M1 k)) (K1 k)))]) rfl ?_
        refine bz_ne (tgt := 28) hx hb dX4_bitIfTrialFits_23 (by decide) (fun c2 => ?_) (fun c2 => ?_)
        ·
          refine lv_iinc (v := nI (k + 1)) (lv' := [(2, .int (nI (k + 1))), (0, .ref x), (1, .int (nI q))]) hx hb dX4_bitIfTrialFits_28 hl (k := 0) rfl (show nI k + Int32.ofInt 1 = nI (k + 1) from nI_add _ 1) (by decide) rfl (fun ls hl => ?_)
          refine lv_goto (tgt := 2) hx hb dX4_bitIfTrialFits_31 (by decide) ?_
          exact ih1 (k + 1) ls (by omega) (by omega) (fi_miss hk (fun h => h c2)) (lv_sub hl [0, 1, 2] rfl)
        ·
          refine lv_iconst (v := nI 0) hx hb dX4_bitIfTrialFits_26 (by decide) ?_
          exact hret _ _ _ ((iF_f (show ¬ alls (-1) P M K U W1 N1 M1 K1 R from fun h => by unfold alls at h; rw [fi_hit hk c2 (by omega)] at h; cases h)).symm) dX4_bitIfTrialFits_27
  exact loop1 (R + 1) 0 ls (by omega) (by omega) rfl (lv_sub hl [0, 1, 2] rfl)

theorem ixX4_debts_X4 : ∀ w ∈ wsX40, w ∈ wsX4_debts := fun _ h => List.mem_cons_of_mem _ (List.mem_append_left _ (List.mem_append_left _ (List.mem_append_right _ h)))
theorem lkX4_debts_12 : Cond.fieldLink RX4 12 (TX4 0).1 (TX4 0).2.1 (TX4 0).2.2.1 ∈ wsX4_debts := List.mem_of_getElem? (i := 1) rfl
theorem lkX4_debts_18 : Cond.fieldLink RX4 18 (TX4 1).1 (TX4 1).2.1 (TX4 1).2.2.1 ∈ wsX4_debts := List.mem_of_getElem? (i := 2) rfl
set_option maxHeartbeats 4000000 in
set_option maxRecDepth 100000 in
theorem kX4_debts (l : Launch) (G : Gl) (x : Nat) (st : Nat) (tr : Nat) (ra : Nat) (sa : Nat) (R : Nat) (tc : Int32) (fl : Int32) (ap : Nat) (ak : Nat) (ao : Nat) (M : Nat) (B : Nat) (P : Nat → Int32) (K : Nat → Int32) (U : Nat → Int32) (tp : Nat) (tk : Nat) (to : Nat) (tM : Int32) (tB : Int32) (P2 : Nat → Int32) (K2 : Nat → Int32) (U2 : Nat → Int32) (RA : Nat → Option Nat) (rr : Nat → Nat) (W1 : Nat → Int32) (N1 : Nat → Int32) (M1 : Nat → Int32) (K1 : Nat → Int32) (a : Int32) (b : Int32) (hM : M ≤ 5) (hB : B ≤ 4) (hR : R ≤ 8) (hz : ∀ j, j < M → P (j * 5 + j) = nI 0) (hU : ∀ b, b < B → vp_in (U b) M) (hra : ∀ q, q < 8 → RA q = some (rr q)) (hrd : ∀ q, q < R → vp_in (W1 q) B ∧ vp_in (N1 q) (20 + 1) ∧ vp_in (M1 q) M) : Wt l G yX4_debts wsX4_debts ({ frames := 6, cells := 0, slots := 0, locals := 135 } : Room) [.ref x, .int a, .int b] [(x, .inr (4, [.ref st, .ref tr, .ref ra, .int (nI R), .ref sa, .int tc, .int fl])), (st, .inr (2, [.ref ap, .ref ak, .ref ao, .int (nI M), .int (nI B)])), (ap, aI G 25 P), (ak, aI G 4 K), (ao, aI G 4 U), (tr, .inr (2, [.ref tp, .ref tk, .ref to, .int tM, .int tB])), (tp, aI G 25 P2), (tk, aI G 4 K2), (to, aI G 4 U2), (ra, aR G 8 RA), (rr 0, .inr (0, [.int (W1 0), .int (N1 0), .int (M1 0), .int (K1 0)])), (rr 1, .inr (0, [.int (W1 1), .int (N1 1), .int (M1 1), .int (K1 1)])), (rr 2, .inr (0, [.int (W1 2), .int (N1 2), .int (M1 2), .int (K1 2)])), (rr 3, .inr (0, [.int (W1 3), .int (N1 3), .int (M1 3), .int (K1 3)])), (rr 4, .inr (0, [.int (W1 4), .int (N1 4), .int (M1 4), .int (K1 4)])), (rr 5, .inr (0, [.int (W1 5), .int (N1 5), .int (M1 5), .int (K1 5)])), (rr 6, .inr (0, [.int (W1 6), .int (N1 6), .int (M1 6), .int (K1 6)])), (rr 7, .inr (0, [.int (W1 7), .int (N1 7), .int (M1 7), .int (K1 7)]))] [(x, .inr (4, [.ref st, .ref tr, .ref ra, .int (nI R), .ref sa, .int tc, .int fl])), (st, .inr (2, [.ref ap, .ref ak, .ref ao, .int (nI M), .int (nI B)])), (ap, aI G 25 P), (ak, aI G 4 K), (ao, aI G 4 U), (tr, .inr (2, [.ref tp, .ref tk, .ref to, .int (iF (hd M a b) (nI M) tM), .int (iF (hd M a b) (nI B) tB)])), (tp, aI G 25 (iF (hd M a b) (dbp P (tn a * 5 + tn b) 10) P2)), (tk, aI G 4 (iF (hd M a b) K K2)), (to, aI G 4 (iF (hd M a b) U U2)), (ra, aR G 8 RA), (rr 0, .inr (0, [.int (W1 0), .int (N1 0), .int (M1 0), .int (K1 0)])), (rr 1, .inr (0, [.int (W1 1), .int (N1 1), .int (M1 1), .int (K1 1)])), (rr 2, .inr (0, [.int (W1 2), .int (N1 2), .int (M1 2), .int (K1 2)])), (rr 3, .inr (0, [.int (W1 3), .int (N1 3), .int (M1 3), .int (K1 3)])), (rr 4, .inr (0, [.int (W1 4), .int (N1 4), .int (M1 4), .int (K1 4)])), (rr 5, .inr (0, [.int (W1 5), .int (N1 5), .int (M1 5), .int (K1 5)])), (rr 6, .inr (0, [.int (W1 6), .int (N1 6), .int (M1 6), .int (K1 6)])), (rr 7, .inr (0, [.int (W1 7), .int (N1 7), .int (M1 7), .int (K1 7)]))] (some (.int (s_debts (-1) M P K U W1 N1 M1 K1 R a b))) := by
  refine Wt.ofI (cc := cX4_debts) (maxL := 5) (by decide) rfl (Nat.le_of_ble_eq_true rfl) ?_
  intro p e s m below meth c Q A ls hE hP hK hD hS hl hret
  obtain ⟨hx, hb, hml, hown, hts⟩ := id hE
  have hl : lv_has ls 5 [(0, .ref x), (1, .int a), (2, .int b)] := hl
  refine lv_aload_n hx hb dX4_debts_0 rfl (lv_at hl 0 rfl) ?_
  refine g_get (v := .ref st) hx hb hts ixX4_debts_X4 hown hK hP 0 rfl rfl 0 (by decide) lkX4_debts_12 rfl dX4_debts_1 ?_
  refine lv_iload_n hx hb dX4_debts_4 rfl (lv_at hl 1 rfl) ?_
  refine lv_iload_n hx hb dX4_debts_5 rfl (lv_at hl 2 rfl) ?_
  refine rdV (As := [.int a, .int b]) (rest := []) (ci := 2) (q0 := 1) hE (kX2_hasDebt l G st ap ak ao M B a b hM) (cwV 2 hts gX4_debts_X2_hasDebt rfl rfl rfl (by decide +kernel) ⟨Nat.le_of_ble_eq_true rfl, Nat.le_of_ble_eq_true rfl⟩) hP hK [1] rfl rfl rfl rfl hl.1 rfl (Nat.le_of_ble_eq_true rfl) dX4_debts_6 ⟨Nat.zero_le _, Nat.zero_le _⟩ ?_
  refine W.eq (g2 := F0 m 9 ls [.int (bI (hd M a b))]) rfl ?_
  refine bz_ne (tgt := 14) hx hb dX4_debts_9 (by decide) (fun c1 => ?_) (fun c1 => ?_)
  ·
    have c10 := c1
    obtain ⟨ha9, hb9, hne9⟩ := c10
    obtain ⟨ja, hja, rfl⟩ := vp_in_of ha9 (by omega)
    obtain ⟨jb, hjb, rfl⟩ := vp_in_of hb9 (by omega)
    have hne : ja ≠ jb := fun q => hne9 (by rw [q])
    refine lv_aload_n hx hb dX4_debts_14 rfl (lv_at hl 0 rfl) ?_
    refine g_get (v := .ref tr) hx hb hts ixX4_debts_X4 hown hK hP 0 rfl rfl 1 (by decide) lkX4_debts_18 rfl dX4_debts_15 ?_
    refine lv_aload_n hx hb dX4_debts_18 rfl (lv_at hl 0 rfl) ?_
    refine g_get (v := .ref st) hx hb hts ixX4_debts_X4 hown hK hP 0 rfl rfl 0 (by decide) lkX4_debts_12 rfl dX4_debts_19 ?_
    refine wtV (As := [.ref st]) (rest := []) (ci := 2) (q0 := 5) hE (kX2_takeOver l G tr tp tk to tM tB P2 K2 U2 st ap ak ao M B P K U ) (cwV 1 hts gX4_debts_X2_takeOver rfl rfl rfl (by decide +kernel) ⟨Nat.le_of_ble_eq_true rfl, Nat.le_of_ble_eq_true rfl⟩) hP hK hD hS [5, 6, 7, 8, 1, 2, 3, 4] (by decide) rfl (Eq.trans (b := [tr, tp, tk, to, st, ap, ak, ao]) rfl rfl) (W1 := [(x, .inr (4, [.ref st, .ref tr, .ref ra, .int (nI R), .ref sa, .int tc, .int fl])), (st, .inr (2, [.ref ap, .ref ak, .ref ao, .int (nI M), .int (nI B)])), (ap, aI G 25 P), (ak, aI G 4 K), (ao, aI G 4 U), (tr, .inr (2, [.ref tp, .ref tk, .ref to, .int (nI M), .int (nI B)])), (tp, aI G 25 P), (tk, aI G 4 K), (to, aI G 4 U), (ra, aR G 8 RA), (rr 0, .inr (0, [.int (W1 0), .int (N1 0), .int (M1 0), .int (K1 0)])), (rr 1, .inr (0, [.int (W1 1), .int (N1 1), .int (M1 1), .int (K1 1)])), (rr 2, .inr (0, [.int (W1 2), .int (N1 2), .int (M1 2), .int (K1 2)])), (rr 3, .inr (0, [.int (W1 3), .int (N1 3), .int (M1 3), .int (K1 3)])), (rr 4, .inr (0, [.int (W1 4), .int (N1 4), .int (M1 4), .int (K1 4)])), (rr 5, .inr (0, [.int (W1 5), .int (N1 5), .int (M1 5), .int (K1 5)])), (rr 6, .inr (0, [.int (W1 6), .int (N1 6), .int (M1 6), .int (K1 6)])), (rr 7, .inr (0, [.int (W1 7), .int (N1 7), .int (M1 7), .int (K1 7)]))]) rfl rfl rfl rfl hl.1 rfl (Nat.le_of_ble_eq_true rfl) dX4_debts_22 ⟨Nat.zero_le _, Nat.zero_le _⟩ (fun H locs hP hD hS => ?_)
    refine W.eq (g2 := F0 m 25 ls []) rfl ?_
    refine lv_iconst (v := nI 0) hx hb dX4_debts_25 (by decide) ?_
    refine lv_istore_n (lv' := [(3, .int (nI 0)), (0, .ref x), (1, .int (nI ja)), (2, .int (nI jb))]) hx hb dX4_debts_26 rfl hl (by decide) rfl (fun ls hl => ?_)
    refine lv_iconst (v := nI 0) hx hb dX4_debts_27 (by decide) ?_
    refine lv_istore (lv' := [(4, .int (nI 0)), (3, .int (nI 0)), (0, .ref x), (1, .int (nI ja)), (2, .int (nI jb))]) hx hb dX4_debts_28 hl (by decide) rfl (fun ls hl => ?_)
    have loop1 : ∀ (d k : Nat) (H : Heap) (locs : List Loc) (ls : Array Slot), 10 < k + d → k ≤ 10 → va_P G.1 vwCl [(x, .inr (4, [.ref st, .ref tr, .ref ra, .int (nI R), .ref sa, .int tc, .int fl])), (st, .inr (2, [.ref ap, .ref ak, .ref ao, .int (nI M), .int (nI B)])), (ap, aI G 25 P), (ak, aI G 4 K), (ao, aI G 4 U), (tr, .inr (2, [.ref tp, .ref tk, .ref to, .int (nI M), .int (nI B)])), (tp, aI G 25 (dbp P (ja * 5 + jb) k)), (tk, aI G 4 K), (to, aI G 4 U), (ra, aR G 8 RA), (rr 0, .inr (0, [.int (W1 0), .int (N1 0), .int (M1 0), .int (K1 0)])), (rr 1, .inr (0, [.int (W1 1), .int (N1 1), .int (M1 1), .int (K1 1)])), (rr 2, .inr (0, [.int (W1 2), .int (N1 2), .int (M1 2), .int (K1 2)])), (rr 3, .inr (0, [.int (W1 3), .int (N1 3), .int (M1 3), .int (K1 3)])), (rr 4, .inr (0, [.int (W1 4), .int (N1 4), .int (M1 4), .int (K1 4)])), (rr 5, .inr (0, [.int (W1 5), .int (N1 5), .int (M1 5), .int (K1 5)])), (rr 6, .inr (0, [.int (W1 6), .int (N1 6), .int (M1 6), .int (K1 6)])), (rr 7, .inr (0, [.int (W1 7), .int (N1 7), .int (M1 7), .int (K1 7)]))] H → va_D A [(x, .inr (4, [.ref st, .ref tr, .ref ra, .int (nI R), .ref sa, .int tc, .int fl])), (st, .inr (2, [.ref ap, .ref ak, .ref ao, .int (nI M), .int (nI B)])), (ap, aI G 25 P), (ak, aI G 4 K), (ao, aI G 4 U), (tr, .inr (2, [.ref tp, .ref tk, .ref to, .int (nI M), .int (nI B)])), (tp, aI G 25 (dbp P (ja * 5 + jb) k)), (tk, aI G 4 K), (to, aI G 4 U), (ra, aR G 8 RA), (rr 0, .inr (0, [.int (W1 0), .int (N1 0), .int (M1 0), .int (K1 0)])), (rr 1, .inr (0, [.int (W1 1), .int (N1 1), .int (M1 1), .int (K1 1)])), (rr 2, .inr (0, [.int (W1 2), .int (N1 2), .int (M1 2), .int (K1 2)])), (rr 3, .inr (0, [.int (W1 3), .int (N1 3), .int (M1 3), .int (K1 3)])), (rr 4, .inr (0, [.int (W1 4), .int (N1 4), .int (M1 4), .int (K1 4)])), (rr 5, .inr (0, [.int (W1 5), .int (N1 5), .int (M1 5), .int (K1 5)])), (rr 6, .inr (0, [.int (W1 6), .int (N1 6), .int (M1 6), .int (K1 6)])), (rr 7, .inr (0, [.int (W1 7), .int (N1 7), .int (M1 7), .int (K1 7)]))] → va_S A s.heap H locs → lv_has ls 5 [(4, .int (nI k)), (3, .int (setS (fun v => alls (-1) (upd P (ja * 5 + jb) (nI v)) M K U W1 N1 M1 K1 R) k)), (0, .ref x), (1, .int (nI ja)), (2, .int (nI jb))] → W p l e ({ frames := 6, cells := 0, slots := 0, locals := 135 } : Room) s m ([.ref x, .int (nI ja), .int (nI jb)] : List Value).toArray below meth c H locs 0 0 Q (F0 m 30 ls []) := by
      intro d
      induction d with
      | zero =>
        intro k H locs ls h1 h2
        omega
      | succ d ih1 =>
        intro k H locs ls hdk hbk hP hD hS hl
        refine lv_iload hx hb dX4_debts_30 (lv_at hl 0 rfl) ?_
        refine lv_bipush (v := nI 9) hx hb dX4_debts_32 (by decide) ?_
        refine ic_gt (tgt := 63) hx hb (by omega) (by omega) dX4_debts_34 (by decide) (fun c2 => ?_) (fun c2 => ?_)
        ·
          obtain rfl : 10 = k := by omega
          refine lv_iload_n hx hb dX4_debts_63 rfl (lv_at hl 1 rfl) ?_
          exact hret _ _ _ _ _ (by first | with_reducible rfl | (simp only [s_debts, iF_t c1, iF_t c2, tn_nI (show ja < 2 ^ 31 by omega), tn_nI (show jb < 2 ^ 31 by omega)]; done) | contradiction) (by first | with_reducible exact hP | (simp only [s_debts, iF_t c1, iF_t c2, tn_nI (show ja < 2 ^ 31 by omega), tn_nI (show jb < 2 ^ 31 by omega)]; with_reducible exact hP) | contradiction | (simp only [s_debts, iF_t c1, iF_t c2, tn_nI (show ja < 2 ^ 31 by omega), tn_nI (show jb < 2 ^ 31 by omega)]; exact hP) | exact hP) hS dX4_debts_64
        ·
          refine lv_aload_n hx hb dX4_debts_37 rfl (lv_at hl 2 rfl) ?_
          refine g_get (v := .ref tr) hx hb hts ixX4_debts_X4 hown hK hP 0 rfl rfl 1 (by decide) lkX4_debts_18 rfl dX4_debts_38 ?_
          refine lv_iload_n hx hb dX4_debts_41 rfl (lv_at hl 3 rfl) ?_
          refine lv_iload_n hx hb dX4_debts_42 rfl (lv_at hl 4 rfl) ?_
          refine lv_iload hx hb dX4_debts_43 (lv_at hl 0 rfl) ?_
          refine wtV (As := [.int (nI ja), .int (nI jb), .int (nI k)]) (rest := []) (ci := 2) (q0 := 5) hE (kX2_setDebt l G tr tp tk to (nI M) (nI B) (dbp P (ja * 5 + jb) k) ja jb (nI k) (by first | omega | assumption)) (cwV 3 hts gX4_debts_X2_setDebt rfl rfl rfl (by decide +kernel) ⟨Nat.le_of_ble_eq_true rfl, Nat.le_of_ble_eq_true rfl⟩) hP hK hD hS [5, 6] (by decide) rfl (Eq.trans (b := [tr, tp]) rfl rfl) (W1 := [(x, .inr (4, [.ref st, .ref tr, .ref ra, .int (nI R), .ref sa, .int tc, .int fl])), (st, .inr (2, [.ref ap, .ref ak, .ref ao, .int (nI M), .int (nI B)])), (ap, aI G 25 P), (ak, aI G 4 K), (ao, aI G 4 U), (tr, .inr (2, [.ref tp, .ref tk, .ref to, .int (nI M), .int (nI B)])), (tp, aI G 25 (upd (dbp P (ja * 5 + jb) k) (ja * 5 + jb) (nI k))), (tk, aI G 4 K), (to, aI G 4 U), (ra, aR G 8 RA), (rr 0, .inr (0, [.int (W1 0), .int (N1 0), .int (M1 0), .int (K1 0)])), (rr 1, .inr (0, [.int (W1 1), .int (N1 1), .int (M1 1), .int (K1 1)])), (rr 2, .inr (0, [.int (W1 2), .int (N1 2), .int (M1 2), .int (K1 2)])), (rr 3, .inr (0, [.int (W1 3), .int (N1 3), .int (M1 3), .int (K1 3)])), (rr 4, .inr (0, [.int (W1 4), .int (N1 4), .int (M1 4), .int (K1 4)])), (rr 5, .inr (0, [.int (W1 5), .int (N1 5), .int (M1 5), .int (K1 5)])), (rr 6, .inr (0, [.int (W1 6), .int (N1 6), .int (M1 6), .int (K1 6)])), (rr 7, .inr (0, [.int (W1 7), .int (N1 7), .int (M1 7), .int (K1 7)]))]) rfl rfl rfl rfl hl.1 rfl (Nat.le_of_ble_eq_true rfl) dX4_debts_45 ⟨Nat.zero_le _, Nat.zero_le _⟩ (fun H locs hP hD hS => ?_)
          refine W.eq (g2 := F0 m 48 ls []) rfl ?_
          have hP : va_P G.1 vwCl [(x, .inr (4, [.ref st, .ref tr, .ref ra, .int (nI R), .ref sa, .int tc, .int fl])), (st, .inr (2, [.ref ap, .ref ak, .ref ao, .int (nI M), .int (nI B)])), (ap, aI G 25 P), (ak, aI G 4 K), (ao, aI G 4 U), (tr, .inr (2, [.ref tp, .ref tk, .ref to, .int (nI M), .int (nI B)])), (tp, aI G 25 (upd P (ja * 5 + jb) (nI k))), (tk, aI G 4 K), (to, aI G 4 U), (ra, aR G 8 RA), (rr 0, .inr (0, [.int (W1 0), .int (N1 0), .int (M1 0), .int (K1 0)])), (rr 1, .inr (0, [.int (W1 1), .int (N1 1), .int (M1 1), .int (K1 1)])), (rr 2, .inr (0, [.int (W1 2), .int (N1 2), .int (M1 2), .int (K1 2)])), (rr 3, .inr (0, [.int (W1 3), .int (N1 3), .int (M1 3), .int (K1 3)])), (rr 4, .inr (0, [.int (W1 4), .int (N1 4), .int (M1 4), .int (K1 4)])), (rr 5, .inr (0, [.int (W1 5), .int (N1 5), .int (M1 5), .int (K1 5)])), (rr 6, .inr (0, [.int (W1 6), .int (N1 6), .int (M1 6), .int (K1 6)])), (rr 7, .inr (0, [.int (W1 7), .int (N1 7), .int (M1 7), .int (K1 7)]))] H := by have h0 := hP; rw [dbp_upd P (ja * 5 + jb) (nI k) k] at h0; exact h0
          have hD : va_D A [(x, .inr (4, [.ref st, .ref tr, .ref ra, .int (nI R), .ref sa, .int tc, .int fl])), (st, .inr (2, [.ref ap, .ref ak, .ref ao, .int (nI M), .int (nI B)])), (ap, aI G 25 P), (ak, aI G 4 K), (ao, aI G 4 U), (tr, .inr (2, [.ref tp, .ref tk, .ref to, .int (nI M), .int (nI B)])), (tp, aI G 25 (upd P (ja * 5 + jb) (nI k))), (tk, aI G 4 K), (to, aI G 4 U), (ra, aR G 8 RA), (rr 0, .inr (0, [.int (W1 0), .int (N1 0), .int (M1 0), .int (K1 0)])), (rr 1, .inr (0, [.int (W1 1), .int (N1 1), .int (M1 1), .int (K1 1)])), (rr 2, .inr (0, [.int (W1 2), .int (N1 2), .int (M1 2), .int (K1 2)])), (rr 3, .inr (0, [.int (W1 3), .int (N1 3), .int (M1 3), .int (K1 3)])), (rr 4, .inr (0, [.int (W1 4), .int (N1 4), .int (M1 4), .int (K1 4)])), (rr 5, .inr (0, [.int (W1 5), .int (N1 5), .int (M1 5), .int (K1 5)])), (rr 6, .inr (0, [.int (W1 6), .int (N1 6), .int (M1 6), .int (K1 6)])), (rr 7, .inr (0, [.int (W1 7), .int (N1 7), .int (M1 7), .int (K1 7)]))] := by have h0 := hD; rw [dbp_upd P (ja * 5 + jb) (nI k) k] at h0; exact h0
          refine lv_iload_n hx hb dX4_debts_48 rfl (lv_at hl 1 rfl) ?_
          refine lv_aload_n hx hb dX4_debts_49 rfl (lv_at hl 2 rfl) ?_
          refine lv_iload hx hb dX4_debts_50 (lv_at hl 0 rfl) ?_
          refine rdV (As := [.int (nI k)]) (rest := [.int (setS (fun v => alls (-1) (upd P (ja * 5 + jb) (nI v)) M K U W1 N1 M1 K1 R) k)]) (ci := 4) (q0 := 0) hE (kX4_bitIfTrialFits l G x st tr ra sa R tc fl RA rr W1 N1 M1 K1 tp tk to M B (upd P (ja * 5 + jb) (nI k)) K U k hM hB hR (hz_upd hM (by omega) (by omega) hne hz) (by first | omega | assumption) (by first | omega | assumption) (by first | omega | assumption)) (cwV 1 hts gX4_debts_X4_bitIfTrialFits rfl rfl rfl (by decide +kernel) ⟨Nat.le_of_ble_eq_true rfl, Nat.le_of_ble_eq_true rfl⟩) hP hK [0, 9, 5, 6, 7, 8, 10, 11, 12, 13, 14, 15, 16, 17] rfl rfl rfl rfl hl.1 rfl (Nat.le_of_ble_eq_true rfl) dX4_debts_52 ⟨Nat.zero_le _, Nat.zero_le _⟩ ?_
          refine W.eq (g2 := F0 m 55 ls [.int (iF (alls (-1) (upd P (ja * 5 + jb) (nI k)) M K U W1 N1 M1 K1 R) (nI 1 <<< (nI k &&& 31)) (nI 0)), .int (setS (fun v => alls (-1) (upd P (ja * 5 + jb) (nI v)) M K U W1 N1 M1 K1 R) k)]) rfl ?_
          refine lv_ior hx hb dX4_debts_55 ?_
          refine lv_istore_n (lv' := [(3, .int ((setS (fun v => alls (-1) (upd P (ja * 5 + jb) (nI v)) M K U W1 N1 M1 K1 R) k) ||| (iF (alls (-1) (upd P (ja * 5 + jb) (nI k)) M K U W1 N1 M1 K1 R) (nI 1 <<< (nI k &&& 31)) (nI 0)))), (4, .int (nI k)), (0, .ref x), (1, .int (nI ja)), (2, .int (nI jb))]) hx hb dX4_debts_56 rfl hl (by decide) rfl (fun ls hl => ?_)
          refine lv_iinc (v := nI (k + 1)) (lv' := [(4, .int (nI (k + 1))), (3, .int ((setS (fun v => alls (-1) (upd P (ja * 5 + jb) (nI v)) M K U W1 N1 M1 K1 R) k) ||| (iF (alls (-1) (upd P (ja * 5 + jb) (nI k)) M K U W1 N1 M1 K1 R) (nI 1 <<< (nI k &&& 31)) (nI 0)))), (0, .ref x), (1, .int (nI ja)), (2, .int (nI jb))]) hx hb dX4_debts_57 hl (k := 1) rfl (show nI k + Int32.ofInt 1 = nI (k + 1) from nI_add _ 1) (by decide) rfl (fun ls hl => ?_)
          refine lv_goto (tgt := 30) hx hb dX4_debts_60 (by decide) ?_
          have hl3 : lv_has ls 5 [(4, .int (nI (k + 1))), (3, .int (setS (fun v => alls (-1) (upd P (ja * 5 + jb) (nI v)) M K U W1 N1 M1 K1 R) (k + 1))), (0, .ref x), (1, .int (nI ja)), (2, .int (nI jb))] := by
            rw [show (setS (fun v => alls (-1) (upd P (ja * 5 + jb) (nI v)) M K U W1 N1 M1 K1 R) (k + 1)) = ((setS (fun v => alls (-1) (upd P (ja * 5 + jb) (nI v)) M K U W1 N1 M1 K1 R) k) ||| (iF (alls (-1) (upd P (ja * 5 + jb) (nI k)) M K U W1 N1 M1 K1 R) (nI 1 <<< (nI k &&& 31)) (nI 0))) from by first | rfl | simp only [setS, dbp, iF_t c1, iF_f (Nat.not_lt.mpr c2), tn_nI (show ja < 2 ^ 31 by omega), tn_nI (show jb < 2 ^ 31 by omega)]]
            exact (lv_sub hl [0, 1, 2, 3, 4] rfl)
          have hP4 : va_P G.1 vwCl [(x, .inr (4, [.ref st, .ref tr, .ref ra, .int (nI R), .ref sa, .int tc, .int fl])), (st, .inr (2, [.ref ap, .ref ak, .ref ao, .int (nI M), .int (nI B)])), (ap, aI G 25 P), (ak, aI G 4 K), (ao, aI G 4 U), (tr, .inr (2, [.ref tp, .ref tk, .ref to, .int (nI M), .int (nI B)])), (tp, aI G 25 (dbp P (ja * 5 + jb) (k + 1))), (tk, aI G 4 K), (to, aI G 4 U), (ra, aR G 8 RA), (rr 0, .inr (0, [.int (W1 0), .int (N1 0), .int (M1 0), .int (K1 0)])), (rr 1, .inr (0, [.int (W1 1), .int (N1 1), .int (M1 1), .int (K1 1)])), (rr 2, .inr (0, [.int (W1 2), .int (N1 2), .int (M1 2), .int (K1 2)])), (rr 3, .inr (0, [.int (W1 3), .int (N1 3), .int (M1 3), .int (K1 3)])), (rr 4, .inr (0, [.int (W1 4), .int (N1 4), .int (M1 4), .int (K1 4)])), (rr 5, .inr (0, [.int (W1 5), .int (N1 5), .int (M1 5), .int (K1 5)])), (rr 6, .inr (0, [.int (W1 6), .int (N1 6), .int (M1 6), .int (K1 6)])), (rr 7, .inr (0, [.int (W1 7), .int (N1 7), .int (M1 7), .int (K1 7)]))] H := by
            rw [show (dbp P (ja * 5 + jb) (k + 1)) = (upd P (ja * 5 + jb) (nI k)) from by first | rfl | simp only [setS, dbp, iF_t c1, iF_f (Nat.not_lt.mpr c2), tn_nI (show ja < 2 ^ 31 by omega), tn_nI (show jb < 2 ^ 31 by omega)]]
            exact hP
          have hD4 : va_D A [(x, .inr (4, [.ref st, .ref tr, .ref ra, .int (nI R), .ref sa, .int tc, .int fl])), (st, .inr (2, [.ref ap, .ref ak, .ref ao, .int (nI M), .int (nI B)])), (ap, aI G 25 P), (ak, aI G 4 K), (ao, aI G 4 U), (tr, .inr (2, [.ref tp, .ref tk, .ref to, .int (nI M), .int (nI B)])), (tp, aI G 25 (dbp P (ja * 5 + jb) (k + 1))), (tk, aI G 4 K), (to, aI G 4 U), (ra, aR G 8 RA), (rr 0, .inr (0, [.int (W1 0), .int (N1 0), .int (M1 0), .int (K1 0)])), (rr 1, .inr (0, [.int (W1 1), .int (N1 1), .int (M1 1), .int (K1 1)])), (rr 2, .inr (0, [.int (W1 2), .int (N1 2), .int (M1 2), .int (K1 2)])), (rr 3, .inr (0, [.int (W1 3), .int (N1 3), .int (M1 3), .int (K1 3)])), (rr 4, .inr (0, [.int (W1 4), .int (N1 4), .int (M1 4), .int (K1 4)])), (rr 5, .inr (0, [.int (W1 5), .int (N1 5), .int (M1 5), .int (K1 5)])), (rr 6, .inr (0, [.int (W1 6), .int (N1 6), .int (M1 6), .int (K1 6)])), (rr 7, .inr (0, [.int (W1 7), .int (N1 7), .int (M1 7), .int (K1 7)]))] := by
            rw [show (dbp P (ja * 5 + jb) (k + 1)) = (upd P (ja * 5 + jb) (nI k)) from by first | rfl | simp only [setS, dbp, iF_t c1, iF_f (Nat.not_lt.mpr c2), tn_nI (show ja < 2 ^ 31 by omega), tn_nI (show jb < 2 ^ 31 by omega)]]
            exact hD
          exact ih1 (k + 1) H locs ls (by omega) (by omega) hP4 hD4 hS hl3
    have hl5 : lv_has ls 5 [(4, .int (nI 0)), (3, .int (setS (fun v => alls (-1) (upd P (ja * 5 + jb) (nI v)) M K U W1 N1 M1 K1 R) 0)), (0, .ref x), (1, .int (nI ja)), (2, .int (nI jb))] := by
      rw [show (setS (fun v => alls (-1) (upd P (ja * 5 + jb) (nI v)) M K U W1 N1 M1 K1 R) 0) = (nI 0) from by first | rfl | simp only [setS, dbp, iF_t c1, tn_nI (show ja < 2 ^ 31 by omega), tn_nI (show jb < 2 ^ 31 by omega)]]
      exact (lv_sub hl [0, 1, 2, 3, 4] rfl)
    have hP6 : va_P G.1 vwCl [(x, .inr (4, [.ref st, .ref tr, .ref ra, .int (nI R), .ref sa, .int tc, .int fl])), (st, .inr (2, [.ref ap, .ref ak, .ref ao, .int (nI M), .int (nI B)])), (ap, aI G 25 P), (ak, aI G 4 K), (ao, aI G 4 U), (tr, .inr (2, [.ref tp, .ref tk, .ref to, .int (nI M), .int (nI B)])), (tp, aI G 25 (dbp P (ja * 5 + jb) 0)), (tk, aI G 4 K), (to, aI G 4 U), (ra, aR G 8 RA), (rr 0, .inr (0, [.int (W1 0), .int (N1 0), .int (M1 0), .int (K1 0)])), (rr 1, .inr (0, [.int (W1 1), .int (N1 1), .int (M1 1), .int (K1 1)])), (rr 2, .inr (0, [.int (W1 2), .int (N1 2), .int (M1 2), .int (K1 2)])), (rr 3, .inr (0, [.int (W1 3), .int (N1 3), .int (M1 3), .int (K1 3)])), (rr 4, .inr (0, [.int (W1 4), .int (N1 4), .int (M1 4), .int (K1 4)])), (rr 5, .inr (0, [.int (W1 5), .int (N1 5), .int (M1 5), .int (K1 5)])), (rr 6, .inr (0, [.int (W1 6), .int (N1 6), .int (M1 6), .int (K1 6)])), (rr 7, .inr (0, [.int (W1 7), .int (N1 7), .int (M1 7), .int (K1 7)]))] H := by
      rw [show (dbp P (ja * 5 + jb) 0) = (P) from by first | rfl | simp only [setS, dbp, iF_t c1, tn_nI (show ja < 2 ^ 31 by omega), tn_nI (show jb < 2 ^ 31 by omega)]]
      exact hP
    have hD6 : va_D A [(x, .inr (4, [.ref st, .ref tr, .ref ra, .int (nI R), .ref sa, .int tc, .int fl])), (st, .inr (2, [.ref ap, .ref ak, .ref ao, .int (nI M), .int (nI B)])), (ap, aI G 25 P), (ak, aI G 4 K), (ao, aI G 4 U), (tr, .inr (2, [.ref tp, .ref tk, .ref to, .int (nI M), .int (nI B)])), (tp, aI G 25 (dbp P (ja * 5 + jb) 0)), (tk, aI G 4 K), (to, aI G 4 U), (ra, aR G 8 RA), (rr 0, .inr (0, [.int (W1 0), .int (N1 0), .int (M1 0), .int (K1 0)])), (rr 1, .inr (0, [.int (W1 1), .int (N1 1), .int (M1 1), .int (K1 1)])), (rr 2, .inr (0, [.int (W1 2), .int (N1 2), .int (M1 2), .int (K1 2)])), (rr 3, .inr (0, [.int (W1 3), .int (N1 3), .int (M1 3), .int (K1 3)])), (rr 4, .inr (0, [.int (W1 4), .int (N1 4), .int (M1 4), .int (K1 4)])), (rr 5, .inr (0, [.int (W1 5), .int (N1 5), .int (M1 5), .int (K1 5)])), (rr 6, .inr (0, [.int (W1 6), .int (N1 6), .int (M1 6), .int (K1 6)])), (rr 7, .inr (0, [.int (W1 7), .int (N1 7), .int (M1 7), .int (K1 7)]))] := by
      rw [show (dbp P (ja * 5 + jb) 0) = (P) from by first | rfl | simp only [setS, dbp, iF_t c1, tn_nI (show ja < 2 ^ 31 by omega), tn_nI (show jb < 2 ^ 31 by omega)]]
      exact hD
    exact loop1 (10 + 1) 0 H locs ls (by omega) (by omega) hP6 hD6 hS hl5
  ·
    refine lv_iconst (v := (-1)) hx hb dX4_debts_12 (by decide) ?_
    exact hret _ _ _ _ _ (by first | with_reducible rfl | (simp only [s_debts, iF_f c1]; done) | contradiction) (by first | with_reducible exact hP | (simp only [s_debts, iF_f c1]; with_reducible exact hP) | contradiction | (simp only [s_debts, iF_f c1]; exact hP) | exact hP) hS dX4_debts_13
