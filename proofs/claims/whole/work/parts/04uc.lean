theorem ixX4_owe_X4 : ∀ w ∈ wsX40, w ∈ wsX4_owe := fun _ h => List.mem_cons_of_mem _ (List.mem_append_left _ (List.mem_append_right _ h))
theorem lkX4_owe_12 : Cond.fieldLink RX4 12 (TX4 0).1 (TX4 0).2.1 (TX4 0).2.2.1 ∈ wsX4_owe := List.mem_of_getElem? (i := 1) rfl
set_option maxHeartbeats 4000000 in
set_option maxRecDepth 100000 in
theorem kX4_owe (l : Launch) (G : Gl) (x : Nat) (st : Nat) (tr : Nat) (ra : Nat) (sa : Nat) (R : Nat) (tc : Int32) (fl : Int32) (ap : Nat) (ak : Nat) (ao : Nat) (M : Nat) (B : Nat) (P : Nat → Int32) (a : Int32) (b : Int32) (v : Int32) (hM : M ≤ 5) : Wt l G yX4_owe wsX4_owe ({ frames := 2, cells := 0, slots := 0, locals := 43 } : Room) [.ref x, .int a, .int b, .int v] [(x, .inr (4, [.ref st, .ref tr, .ref ra, .int (nI R), .ref sa, .int tc, .int fl])), (st, .inr (2, [.ref ap, .ref ak, .ref ao, .int (nI M), .int (nI B)])), (ap, aI G 25 P)] [(x, .inr (4, [.ref st, .ref tr, .ref ra, .int (nI R), .ref sa, .int tc, .int fl])), (st, .inr (2, [.ref ap, .ref ak, .ref ao, .int (nI M), .int (nI B)])), (ap, aI G 25 (w_owe M P a b v))] (some (.int (s_owe M P a b v))) := by
  refine Wt.ofI (cc := cX4_owe) (maxL := 5) (by decide) rfl (Nat.le_of_ble_eq_true rfl) ?_
  intro p e s m below meth c Q A ls hE hP hK hD hS hl hret
  obtain ⟨hx, hb, hml, hown, hts⟩ := id hE
  have hl : lv_has ls 5 [(0, .ref x), (1, .int a), (2, .int b), (3, .int v)] := hl
  refine lv_aload_n hx hb dX4_owe_0 rfl (lv_at hl 0 rfl) ?_
  refine g_get (v := .ref st) hx hb hts ixX4_owe_X4 hown hK hP 0 rfl rfl 0 (by decide) lkX4_owe_12 rfl dX4_owe_1 ?_
  refine lv_iload_n hx hb dX4_owe_4 rfl (lv_at hl 1 rfl) ?_
  refine lv_iload_n hx hb dX4_owe_5 rfl (lv_at hl 2 rfl) ?_
  refine rdV (As := [.int a, .int b]) (rest := []) (ci := 2) (q0 := 1) hE (kX2_hasDebt l G st ap ak ao M B a b hM) (cwV 2 hts gX4_owe_X2_hasDebt rfl rfl rfl (by decide +kernel) ⟨Nat.le_of_ble_eq_true rfl, Nat.le_of_ble_eq_true rfl⟩) hP hK [1] rfl rfl rfl rfl hl.1 rfl (Nat.le_of_ble_eq_true rfl) dX4_owe_6 ⟨Nat.zero_le _, Nat.zero_le _⟩ ?_
  refine W.eq (g2 := F0 m 9 ls [.int (bI (hd M a b))]) rfl ?_
  refine bz_ne (tgt := 14) hx hb dX4_owe_9 (by decide) (fun c1 => ?_) (fun c1 => ?_)
  ·
    have c10 := c1
    obtain ⟨ha9, hb9, hne9⟩ := c10
    obtain ⟨ja, hja, rfl⟩ := vp_in_of ha9 (by omega)
    obtain ⟨jb, hjb, rfl⟩ := vp_in_of hb9 (by omega)
    refine lv_iload_n hx hb dX4_owe_14 rfl (lv_at hl 3 rfl) ?_
    refine lv_bipush (v := nI 9) hx hb dX4_owe_15 (by decide) ?_
    refine rdS (As := [.int v, .int (nI 9)]) (rest := []) hE (kX4_isWithin l G v 9 (by first | omega | assumption)) (va_cwS 2 hts gX4_owe_X4_isWithin rfl rfl rfl (by decide +kernel) ⟨Nat.le_of_ble_eq_true rfl, Nat.le_of_ble_eq_true rfl⟩) hP hK [] rfl rfl hl.1 rfl (Nat.le_of_ble_eq_true rfl) dX4_owe_17 ⟨Nat.zero_le _, Nat.zero_le _⟩ ?_
    refine W.eq (g2 := F0 m 20 ls [.int (bI (vp_in v (9 + 1)))]) rfl ?_
    refine bz_ne (tgt := 26) hx hb dX4_owe_20 (by decide) (fun c2 => ?_) (fun c2 => ?_)
    ·
      refine lv_aload_n hx hb dX4_owe_26 rfl (lv_at hl 0 rfl) ?_
      refine g_get (v := .ref st) hx hb hts ixX4_owe_X4 hown hK hP 0 rfl rfl 0 (by decide) lkX4_owe_12 rfl dX4_owe_27 ?_
      refine lv_iload_n hx hb dX4_owe_30 rfl (lv_at hl 1 rfl) ?_
      refine lv_iload_n hx hb dX4_owe_31 rfl (lv_at hl 2 rfl) ?_
      refine rdV (As := [.int (nI ja), .int (nI jb)]) (rest := []) (ci := 2) (q0 := 1) hE (kX2_debt l G st ap ak ao M B P ja jb (by first | omega | assumption)) (cwV 2 hts gX4_owe_X2_debt rfl rfl rfl (by decide +kernel) ⟨Nat.le_of_ble_eq_true rfl, Nat.le_of_ble_eq_true rfl⟩) hP hK [1, 2] rfl rfl rfl rfl hl.1 rfl (Nat.le_of_ble_eq_true rfl) dX4_owe_32 ⟨Nat.zero_le _, Nat.zero_le _⟩ ?_
      refine W.eq (g2 := F0 m 35 ls [.int (P (ja * 5 + jb))]) rfl ?_
      refine lv_istore (lv' := [(4, .int (P (ja * 5 + jb))), (0, .ref x), (1, .int (nI ja)), (2, .int (nI jb)), (3, .int v)]) hx hb dX4_owe_35 hl (by decide) rfl (fun ls hl => ?_)
      refine lv_aload_n hx hb dX4_owe_37 rfl (lv_at hl 1 rfl) ?_
      refine g_get (v := .ref st) hx hb hts ixX4_owe_X4 hown hK hP 0 rfl rfl 0 (by decide) lkX4_owe_12 rfl dX4_owe_38 ?_
      refine lv_iload_n hx hb dX4_owe_41 rfl (lv_at hl 2 rfl) ?_
      refine lv_iload_n hx hb dX4_owe_42 rfl (lv_at hl 3 rfl) ?_
      refine lv_iload_n hx hb dX4_owe_43 rfl (lv_at hl 4 rfl) ?_
      refine wtV (As := [.int (nI ja), .int (nI jb), .int v]) (rest := []) (ci := 2) (q0 := 1) hE (kX2_setDebt l G st ap ak ao (nI M) (nI B) P ja jb v (by first | omega | assumption)) (cwV 3 hts gX4_owe_X2_setDebt rfl rfl rfl (by decide +kernel) ⟨Nat.le_of_ble_eq_true rfl, Nat.le_of_ble_eq_true rfl⟩) hP hK hD hS [1, 2] (by decide) rfl (Eq.trans (b := [st, ap]) rfl rfl) (W1 := [(x, .inr (4, [.ref st, .ref tr, .ref ra, .int (nI R), .ref sa, .int tc, .int fl])), (st, .inr (2, [.ref ap, .ref ak, .ref ao, .int (nI M), .int (nI B)])), (ap, aI G 25 (upd P (ja * 5 + jb) v))]) rfl rfl rfl rfl hl.1 rfl (Nat.le_of_ble_eq_true rfl) dX4_owe_44 ⟨Nat.zero_le _, Nat.zero_le _⟩ (fun H locs hP hD hS => ?_)
      refine W.eq (g2 := F0 m 47 ls []) rfl ?_
      refine lv_iload hx hb dX4_owe_47 (lv_at hl 0 rfl) ?_
      exact hret _ _ _ _ _ (by first | with_reducible rfl | (simp only [s_owe, w_owe, iF_t c1, iF_t c2, tn_nI (show ja < 2 ^ 31 by omega), tn_nI (show jb < 2 ^ 31 by omega)]; done) | contradiction) (by first | with_reducible exact hP | (simp only [s_owe, w_owe, iF_t c1, iF_t c2, tn_nI (show ja < 2 ^ 31 by omega), tn_nI (show jb < 2 ^ 31 by omega)]; with_reducible exact hP) | contradiction | (simp only [s_owe, w_owe, iF_t c1, iF_t c2, tn_nI (show ja < 2 ^ 31 by omega), tn_nI (show jb < 2 ^ 31 by omega)]; exact hP) | exact hP) hS dX4_owe_49
    ·
      refine lv_bipush (v := (-2)) hx hb dX4_owe_23 (by decide) ?_
      exact hret _ _ _ _ _ (by first | with_reducible rfl | (simp only [s_owe, w_owe, iF_t c1, iF_f c2, tn_nI (show ja < 2 ^ 31 by omega), tn_nI (show jb < 2 ^ 31 by omega)]; done) | contradiction) (by first | with_reducible exact hP | (simp only [s_owe, w_owe, iF_t c1, iF_f c2, tn_nI (show ja < 2 ^ 31 by omega), tn_nI (show jb < 2 ^ 31 by omega)]; with_reducible exact hP) | contradiction | (simp only [s_owe, w_owe, iF_t c1, iF_f c2, tn_nI (show ja < 2 ^ 31 by omega), tn_nI (show jb < 2 ^ 31 by omega)]; exact hP) | exact hP) hS dX4_owe_25
  ·
    refine lv_iconst (v := (-1)) hx hb dX4_owe_12 (by decide) ?_
    exact hret _ _ _ _ _ (by first | with_reducible rfl | (simp only [s_owe, w_owe, iF_f c1]; done) | contradiction) (by first | with_reducible exact hP | (simp only [s_owe, w_owe, iF_f c1]; with_reducible exact hP) | contradiction | (simp only [s_owe, w_owe, iF_f c1]; exact hP) | exact hP) hS dX4_owe_13

theorem ixX4_bind_X4 : ∀ w ∈ wsX40, w ∈ wsX4_bind := fun _ h => List.mem_cons_of_mem _ (List.mem_append_left _ (List.mem_append_right _ h))
theorem lkX4_bind_12 : Cond.fieldLink RX4 12 (TX4 0).1 (TX4 0).2.1 (TX4 0).2.2.1 ∈ wsX4_bind := List.mem_of_getElem? (i := 1) rfl
theorem ixX4_bind_X2 : ∀ w ∈ wsX20, w ∈ wsX4_bind := fun _ h => List.mem_cons_of_mem _ (List.mem_append_right _ h)
set_option maxHeartbeats 4000000 in
set_option maxRecDepth 100000 in
theorem kX4_bind (l : Launch) (G : Gl) (x : Nat) (st : Nat) (tr : Nat) (ra : Nat) (sa : Nat) (R : Nat) (tc : Int32) (fl : Int32) (ap : Nat) (ak : Nat) (ao : Nat) (M : Nat) (B : Nat) (U : Nat → Int32) (b : Int32) (m0 : Int32) (hM : M ≤ 5) (hB : B ≤ 4) : Wt l G yX4_bind wsX4_bind ({ frames := 1, cells := 0, slots := 0, locals := 21 } : Room) [.ref x, .int b, .int m0] [(x, .inr (4, [.ref st, .ref tr, .ref ra, .int (nI R), .ref sa, .int tc, .int fl])), (st, .inr (2, [.ref ap, .ref ak, .ref ao, .int (nI M), .int (nI B)])), (ao, aI G 4 U)] [(x, .inr (4, [.ref st, .ref tr, .ref ra, .int (nI R), .ref sa, .int tc, .int fl])), (st, .inr (2, [.ref ap, .ref ak, .ref ao, .int (nI M), .int (nI B)])), (ao, aI G 4 (w_bind B M U b m0))] (some (.int (s_bind B M U b m0))) := by
  refine Wt.ofI (cc := cX4_bind) (maxL := 4) (by decide) rfl (Nat.le_of_ble_eq_true rfl) ?_
  intro p e s m below meth c Q A ls hE hP hK hD hS hl hret
  obtain ⟨hx, hb, hml, hown, hts⟩ := id hE
  have hl : lv_has ls 4 [(0, .ref x), (1, .int b), (2, .int m0)] := hl
  refine lv_aload_n hx hb dX4_bind_0 rfl (lv_at hl 0 rfl) ?_
  refine g_get (v := .ref st) hx hb hts ixX4_bind_X4 hown hK hP 0 rfl rfl 0 (by decide) lkX4_bind_12 rfl dX4_bind_1 ?_
  refine lv_iload_n hx hb dX4_bind_4 rfl (lv_at hl 1 rfl) ?_
  refine rdV (As := [.int b]) (rest := []) (ci := 2) (q0 := 1) hE (kX2_hasBoy l G st ap ak ao M B b hB) (cwV 1 hts gX4_bind_X2_hasBoy rfl rfl rfl (by decide +kernel) ⟨Nat.le_of_ble_eq_true rfl, Nat.le_of_ble_eq_true rfl⟩) hP hK [1] rfl rfl rfl rfl hl.1 rfl (Nat.le_of_ble_eq_true rfl) dX4_bind_5 ⟨Nat.zero_le _, Nat.zero_le _⟩ ?_
  refine W.eq (g2 := F0 m 8 ls [.int (bI (vp_in b B))]) rfl ?_
  refine bz_eq (tgt := 22) hx hb dX4_bind_8 (by decide) (fun c1 => ?_) (fun c1 => ?_)
  ·
    refine lv_iconst (v := (-1)) hx hb dX4_bind_22 (by decide) ?_
    exact hret _ _ _ _ _ (by first | with_reducible rfl | (simp only [s_bind, w_bind, iF_f c1]; done) | contradiction) (by first | with_reducible exact hP | (simp only [s_bind, w_bind, iF_f c1]; with_reducible exact hP) | contradiction | (simp only [s_bind, w_bind, iF_f c1]; exact hP) | exact hP) hS dX4_bind_23
  ·
    obtain ⟨jb, hjb, rfl⟩ := vp_in_of c1 (by omega)
    refine lv_aload_n hx hb dX4_bind_11 rfl (lv_at hl 0 rfl) ?_
    refine g_get (v := .ref st) hx hb hts ixX4_bind_X4 hown hK hP 0 rfl rfl 0 (by decide) lkX4_bind_12 rfl dX4_bind_12 ?_
    refine lv_iload_n hx hb dX4_bind_15 rfl (lv_at hl 2 rfl) ?_
    refine rdV (As := [.int m0]) (rest := []) (ci := 2) (q0 := 1) hE (kX2_hasMaster l G st ap ak ao M B m0 hM) (cwV 1 hts gX4_bind_X2_hasMaster rfl rfl rfl (by decide +kernel) ⟨Nat.le_of_ble_eq_true rfl, Nat.le_of_ble_eq_true rfl⟩) hP hK [1] rfl rfl rfl rfl hl.1 rfl (Nat.le_of_ble_eq_true rfl) dX4_bind_16 ⟨Nat.zero_le _, Nat.zero_le _⟩ ?_
    refine W.eq (g2 := F0 m 19 ls [.int (bI (vp_in m0 M))]) rfl ?_
    refine bz_ne (tgt := 24) hx hb dX4_bind_19 (by decide) (fun c2 => ?_) (fun c2 => ?_)
    ·
      refine lv_aload_n hx hb dX4_bind_24 rfl (lv_at hl 0 rfl) ?_
      refine g_get (v := .ref st) hx hb hts ixX4_bind_X4 hown hK hP 0 rfl rfl 0 (by decide) lkX4_bind_12 rfl dX4_bind_25 ?_
      refine g_getN (v := .ref ao) hx hb hts ixX4_bind_X2 hown hK hP 1 rfl rfl 2 (by decide) nkX4_86 rfl dX4_bind_28 ?_
      refine lv_iload_n hx hb dX4_bind_31 rfl (lv_at hl 1 rfl) ?_
      refine n_ald hx hb hK hP 2 rfl (k := jb) (by omega) (by decide) dX4_bind_32 ?_
      refine lv_istore_n (lv' := [(3, .int (U jb)), (0, .ref x), (1, .int (nI jb)), (2, .int m0)]) hx hb dX4_bind_33 rfl hl (by decide) rfl (fun ls hl => ?_)
      refine lv_aload_n hx hb dX4_bind_34 rfl (lv_at hl 1 rfl) ?_
      refine g_get (v := .ref st) hx hb hts ixX4_bind_X4 hown hK hP 0 rfl rfl 0 (by decide) lkX4_bind_12 rfl dX4_bind_35 ?_
      refine g_getN (v := .ref ao) hx hb hts ixX4_bind_X2 hown hK hP 1 rfl rfl 2 (by decide) nkX4_86 rfl dX4_bind_38 ?_
      refine lv_iload_n hx hb dX4_bind_41 rfl (lv_at hl 2 rfl) ?_
      refine lv_iload_n hx hb dX4_bind_42 rfl (lv_at hl 3 rfl) ?_
      refine n_ast hx hb hK hP hD hS 2 rfl (k := jb) (by omega) (by decide) dX4_bind_43 (fun H locs hP hD hS => ?_)
      have hP : va_P G.1 vwCl [(x, .inr (4, [.ref st, .ref tr, .ref ra, .int (nI R), .ref sa, .int tc, .int fl])), (st, .inr (2, [.ref ap, .ref ak, .ref ao, .int (nI M), .int (nI B)])), (ao, aI G 4 (upd U jb m0))] H := hP
      have hD : va_D A [(x, .inr (4, [.ref st, .ref tr, .ref ra, .int (nI R), .ref sa, .int tc, .int fl])), (st, .inr (2, [.ref ap, .ref ak, .ref ao, .int (nI M), .int (nI B)])), (ao, aI G 4 (upd U jb m0))] := hD
      refine lv_iload_n hx hb dX4_bind_44 rfl (lv_at hl 0 rfl) ?_
      exact hret _ _ _ _ _ (by first | with_reducible rfl | (simp only [s_bind, w_bind, iF_t c1, iF_t c2, tn_nI (show jb < 2 ^ 31 by omega)]; done) | contradiction) (by first | with_reducible exact hP | (simp only [s_bind, w_bind, iF_t c1, iF_t c2, tn_nI (show jb < 2 ^ 31 by omega)]; with_reducible exact hP) | contradiction | (simp only [s_bind, w_bind, iF_t c1, iF_t c2, tn_nI (show jb < 2 ^ 31 by omega)]; exact hP) | exact hP) hS dX4_bind_45
    ·
      refine lv_iconst (v := (-1)) hx hb dX4_bind_22 (by decide) ?_
      exact hret _ _ _ _ _ (by first | with_reducible rfl | (simp only [s_bind, w_bind, iF_t c1, iF_f c2, tn_nI (show jb < 2 ^ 31 by omega)]; done) | contradiction) (by first | with_reducible exact hP | (simp only [s_bind, w_bind, iF_t c1, iF_f c2, tn_nI (show jb < 2 ^ 31 by omega)]; with_reducible exact hP) | contradiction | (simp only [s_bind, w_bind, iF_t c1, iF_f c2, tn_nI (show jb < 2 ^ 31 by omega)]; exact hP) | exact hP) hS dX4_bind_23

theorem ixX4_next_X4 : ∀ w ∈ wsX40, w ∈ wsX4_next := fun _ h => List.mem_cons_of_mem _ (List.mem_append_left _ (List.mem_append_right _ h))
theorem lkX4_next_12 : Cond.fieldLink RX4 12 (TX4 0).1 (TX4 0).2.1 (TX4 0).2.2.1 ∈ wsX4_next := List.mem_of_getElem? (i := 1) rfl
set_option maxHeartbeats 4000000 in
set_option maxRecDepth 100000 in
theorem kX4_next (l : Launch) (G : Gl) (x : Nat) (st : Nat) (tr : Nat) (ra : Nat) (sa : Nat) (R : Nat) (tc : Int32) (fl : Int32) (ap : Nat) (ak : Nat) (ao : Nat) (M : Nat) (B : Nat) (P : Nat → Int32) (m0 : Int32) (hM : M ≤ 5) (hz : ∀ j, j < M → P (j * 5 + j) = nI 0) : Rd l G yX4_next wsX4_next ({ frames := 2, cells := 0, slots := 0, locals := 46 } : Room) [.ref x, .int m0] [(x, .inr (4, [.ref st, .ref tr, .ref ra, .int (nI R), .ref sa, .int tc, .int fl])), (st, .inr (2, [.ref ap, .ref ak, .ref ao, .int (nI M), .int (nI B)])), (ap, aI G 25 P)] (some (.int (s_next M P m0))) := by
  refine Rd.ofI (cc := cX4_next) (maxL := 2) (by decide) rfl (Nat.le_of_ble_eq_true rfl) ?_
  intro p e s m below meth c Q ls hE hP hK hl hret
  obtain ⟨hx, hb, hml, hown, hts⟩ := id hE
  have hl : lv_has ls 2 [(0, .ref x), (1, .int m0)] := hl
  refine lv_aload_n hx hb dX4_next_0 rfl (lv_at hl 0 rfl) ?_
  refine g_get (v := .ref st) hx hb hts ixX4_next_X4 hown hK hP 0 rfl rfl 0 (by decide) lkX4_next_12 rfl dX4_next_1 ?_
  refine lv_iload_n hx hb dX4_next_4 rfl (lv_at hl 1 rfl) ?_
  refine rdV (As := [.int m0]) (rest := []) (ci := 2) (q0 := 1) hE (kX2_hasMaster l G st ap ak ao M B m0 hM) (cwV 1 hts gX4_next_X2_hasMaster rfl rfl rfl (by decide +kernel) ⟨Nat.le_of_ble_eq_true rfl, Nat.le_of_ble_eq_true rfl⟩) hP hK [1] rfl rfl rfl rfl hl.1 rfl (Nat.le_of_ble_eq_true rfl) dX4_next_5 ⟨Nat.zero_le _, Nat.zero_le _⟩ ?_
  refine W.eq (g2 := F0 m 8 ls [.int (bI (vp_in m0 M))]) rfl ?_
  refine bz_ne (tgt := 13) hx hb dX4_next_8 (by decide) (fun c1 => ?_) (fun c1 => ?_)
  ·
    obtain ⟨jm0, hjm0, rfl⟩ := vp_in_of c1 (by omega)
    refine lv_aload_n hx hb dX4_next_13 rfl (lv_at hl 0 rfl) ?_
    refine g_get (v := .ref st) hx hb hts ixX4_next_X4 hown hK hP 0 rfl rfl 0 (by decide) lkX4_next_12 rfl dX4_next_14 ?_
    refine lv_iload_n hx hb dX4_next_17 rfl (lv_at hl 1 rfl) ?_
    refine rdV (As := [.int (nI jm0)]) (rest := []) (ci := 2) (q0 := 1) hE (kX2_nextOf l G st ap ak ao M B P jm0 hM hjm0 (by first | omega | assumption | exact hU _ (by omega) | exact hz _ (by omega))) (cwV 1 hts gX4_next_X2_nextOf rfl rfl rfl (by decide +kernel) ⟨Nat.le_of_ble_eq_true rfl, Nat.le_of_ble_eq_true rfl⟩) hP hK [1, 2] rfl rfl rfl rfl hl.1 rfl (Nat.le_of_ble_eq_true rfl) dX4_next_18 ⟨Nat.zero_le _, Nat.zero_le _⟩ ?_
    refine W.eq (g2 := F0 m 21 ls [.int (nI (nxt P M jm0))]) rfl ?_
    exact hret _ _ _ (by first | with_reducible rfl | (simp only [s_next, iF_t c1, tn_nI (show jm0 < 2 ^ 31 by omega)]; done) | contradiction) dX4_next_21
  ·
    refine lv_iconst (v := (-1)) hx hb dX4_next_11 (by decide) ?_
    exact hret _ _ _ (by first | with_reducible rfl | (simp only [s_next, iF_f c1]; done) | contradiction) dX4_next_12

theorem ixX4_where_X4 : ∀ w ∈ wsX40, w ∈ wsX4_where := fun _ h => List.mem_cons_of_mem _ (List.mem_append_left _ (List.mem_append_right _ h))
theorem lkX4_where_12 : Cond.fieldLink RX4 12 (TX4 0).1 (TX4 0).2.1 (TX4 0).2.2.1 ∈ wsX4_where := List.mem_of_getElem? (i := 1) rfl
set_option maxHeartbeats 4000000 in
set_option maxRecDepth 100000 in
theorem kX4_where (l : Launch) (G : Gl) (x : Nat) (st : Nat) (tr : Nat) (ra : Nat) (sa : Nat) (R : Nat) (tc : Int32) (fl : Int32) (ap : Nat) (ak : Nat) (ao : Nat) (M : Nat) (B : Nat) (P : Nat → Int32) (U : Nat → Int32) (b : Int32) (n : Int32) (hM : M ≤ 5) (hB : B ≤ 4) (hz : ∀ j, j < M → P (j * 5 + j) = nI 0) (hU : ∀ b, b < B → vp_in (U b) M) : Rd l G yX4_where wsX4_where ({ frames := 4, cells := 0, slots := 0, locals := 92 } : Room) [.ref x, .int b, .int n] [(x, .inr (4, [.ref st, .ref tr, .ref ra, .int (nI R), .ref sa, .int tc, .int fl])), (st, .inr (2, [.ref ap, .ref ak, .ref ao, .int (nI M), .int (nI B)])), (ap, aI G 25 P), (ao, aI G 4 U)] (some (.int (s_where B M P U b n))) := by
  refine Rd.ofI (cc := cX4_where) (maxL := 3) (by decide) rfl (Nat.le_of_ble_eq_true rfl) ?_
  intro p e s m below meth c Q ls hE hP hK hl hret
  obtain ⟨hx, hb, hml, hown, hts⟩ := id hE
  have hl : lv_has ls 3 [(0, .ref x), (1, .int b), (2, .int n)] := hl
  refine lv_aload_n hx hb dX4_where_0 rfl (lv_at hl 0 rfl) ?_
  refine g_get (v := .ref st) hx hb hts ixX4_where_X4 hown hK hP 0 rfl rfl 0 (by decide) lkX4_where_12 rfl dX4_where_1 ?_
  refine lv_iload_n hx hb dX4_where_4 rfl (lv_at hl 1 rfl) ?_
  refine rdV (As := [.int b]) (rest := []) (ci := 2) (q0 := 1) hE (kX2_hasBoy l G st ap ak ao M B b hB) (cwV 1 hts gX4_where_X2_hasBoy rfl rfl rfl (by decide +kernel) ⟨Nat.le_of_ble_eq_true rfl, Nat.le_of_ble_eq_true rfl⟩) hP hK [1] rfl rfl rfl rfl hl.1 rfl (Nat.le_of_ble_eq_true rfl) dX4_where_5 ⟨Nat.zero_le _, Nat.zero_le _⟩ ?_
  refine W.eq (g2 := F0 m 8 ls [.int (bI (vp_in b B))]) rfl ?_
  refine bz_ne (tgt := 13) hx hb dX4_where_8 (by decide) (fun c1 => ?_) (fun c1 => ?_)
  ·
    obtain ⟨jb, hjb, rfl⟩ := vp_in_of c1 (by omega)
    refine lv_iload_n hx hb dX4_where_13 rfl (lv_at hl 2 rfl) ?_
    refine lv_bipush (v := nI 60) hx hb dX4_where_14 (by decide) ?_
    refine rdS (As := [.int n, .int (nI 60)]) (rest := []) hE (kX4_isWithin l G n 60 (by first | omega | assumption | exact hU _ (by omega) | exact hz _ (by omega))) (va_cwS 2 hts gX4_where_X4_isWithin rfl rfl rfl (by decide +kernel) ⟨Nat.le_of_ble_eq_true rfl, Nat.le_of_ble_eq_true rfl⟩) hP hK [] rfl rfl hl.1 rfl (Nat.le_of_ble_eq_true rfl) dX4_where_16 ⟨Nat.zero_le _, Nat.zero_le _⟩ ?_
    refine W.eq (g2 := F0 m 19 ls [.int (bI (vp_in n (60 + 1)))]) rfl ?_
    refine bz_ne (tgt := 25) hx hb dX4_where_19 (by decide) (fun c2 => ?_) (fun c2 => ?_)
    ·
      obtain ⟨jn, hjn, rfl⟩ := vp_in_of c2 (by omega)
      refine lv_aload_n hx hb dX4_where_25 rfl (lv_at hl 0 rfl) ?_
      refine g_get (v := .ref st) hx hb hts ixX4_where_X4 hown hK hP 0 rfl rfl 0 (by decide) lkX4_where_12 rfl dX4_where_26 ?_
      refine lv_iload_n hx hb dX4_where_29 rfl (lv_at hl 1 rfl) ?_
      refine lv_iload_n hx hb dX4_where_30 rfl (lv_at hl 2 rfl) ?_
      refine rdV (As := [.int (nI jb), .int (nI jn)]) (rest := []) (ci := 2) (q0 := 1) hE (kX2_masterBehind l G st ap ak ao M B P U jb jn hM (by first | omega | assumption | exact hU _ (by omega) | exact hz _ (by omega)) (by first | omega | assumption | exact hU _ (by omega) | exact hz _ (by omega)) (by first | omega | assumption | exact hU _ (by omega) | exact hz _ (by omega)) hz) (cwV 2 hts gX4_where_X2_masterBehind rfl rfl rfl (by decide +kernel) ⟨Nat.le_of_ble_eq_true rfl, Nat.le_of_ble_eq_true rfl⟩) hP hK [1, 2, 3] rfl rfl rfl rfl hl.1 rfl (Nat.le_of_ble_eq_true rfl) dX4_where_31 ⟨Nat.zero_le _, Nat.zero_le _⟩ ?_
      refine W.eq (g2 := F0 m 34 ls [.int (nI (wh P M (tn (U jb)) jn))]) rfl ?_
      exact hret _ _ _ (by first | with_reducible rfl | (simp only [s_where, iF_t c1, iF_t c2, tn_nI (show jb < 2 ^ 31 by omega), tn_nI (show jn < 2 ^ 31 by omega)]; done) | contradiction) dX4_where_34
    ·
      refine lv_bipush (v := (-2)) hx hb dX4_where_22 (by decide) ?_
      exact hret _ _ _ (by first | with_reducible rfl | (simp only [s_where, iF_t c1, iF_f c2, tn_nI (show jb < 2 ^ 31 by omega)]; done) | contradiction) dX4_where_24
  ·
    refine lv_iconst (v := (-1)) hx hb dX4_where_11 (by decide) ?_
    exact hret _ _ _ (by first | with_reducible rfl | (simp only [s_where, iF_f c1]; done) | contradiction) dX4_where_12

theorem ixX4_knows_X4 : ∀ w ∈ wsX40, w ∈ wsX4_knows := fun _ h => List.mem_cons_of_mem _ (List.mem_append_left _ (List.mem_append_right _ h))
theorem lkX4_knows_12 : Cond.fieldLink RX4 12 (TX4 0).1 (TX4 0).2.1 (TX4 0).2.2.1 ∈ wsX4_knows := List.mem_of_getElem? (i := 1) rfl
set_option maxHeartbeats 4000000 in
set_option maxRecDepth 100000 in
theorem kX4_knows (l : Launch) (G : Gl) (x : Nat) (st : Nat) (tr : Nat) (ra : Nat) (sa : Nat) (R : Nat) (tc : Int32) (fl : Int32) (ap : Nat) (ak : Nat) (ao : Nat) (M : Nat) (B : Nat) (P : Nat → Int32) (K : Nat → Int32) (U : Nat → Int32) (b : Int32) (m0 : Int32) (n : Int32) (hM : M ≤ 5) (hB : B ≤ 4) (hz : ∀ j, j < M → P (j * 5 + j) = nI 0) (hU : ∀ b, b < B → vp_in (U b) M) : Rd l G yX4_knows wsX4_knows ({ frames := 3, cells := 0, slots := 0, locals := 72 } : Room) [.ref x, .int b, .int m0, .int n] [(x, .inr (4, [.ref st, .ref tr, .ref ra, .int (nI R), .ref sa, .int tc, .int fl])), (st, .inr (2, [.ref ap, .ref ak, .ref ao, .int (nI M), .int (nI B)])), (ap, aI G 25 P), (ak, aI G 4 K), (ao, aI G 4 U)] (some (.int (s_knows B M P K U b m0 n))) := by
  refine Rd.ofI (cc := cX4_knows) (maxL := 4) (by decide) rfl (Nat.le_of_ble_eq_true rfl) ?_
  intro p e s m below meth c Q ls hE hP hK hl hret
  obtain ⟨hx, hb, hml, hown, hts⟩ := id hE
  have hl : lv_has ls 4 [(0, .ref x), (1, .int b), (2, .int m0), (3, .int n)] := hl
  refine lv_aload_n hx hb dX4_knows_0 rfl (lv_at hl 0 rfl) ?_
  refine g_get (v := .ref st) hx hb hts ixX4_knows_X4 hown hK hP 0 rfl rfl 0 (by decide) lkX4_knows_12 rfl dX4_knows_1 ?_
  refine lv_iload_n hx hb dX4_knows_4 rfl (lv_at hl 1 rfl) ?_
  refine rdV (As := [.int b]) (rest := []) (ci := 2) (q0 := 1) hE (kX2_hasBoy l G st ap ak ao M B b hB) (cwV 1 hts gX4_knows_X2_hasBoy rfl rfl rfl (by decide +kernel) ⟨Nat.le_of_ble_eq_true rfl, Nat.le_of_ble_eq_true rfl⟩) hP hK [1] rfl rfl rfl rfl hl.1 rfl (Nat.le_of_ble_eq_true rfl) dX4_knows_5 ⟨Nat.zero_le _, Nat.zero_le _⟩ ?_
  refine W.eq (g2 := F0 m 8 ls [.int (bI (vp_in b B))]) rfl ?_
  refine bz_eq (tgt := 22) hx hb dX4_knows_8 (by decide) (fun c1 => ?_) (fun c1 => ?_)
  ·
    refine lv_iconst (v := (-1)) hx hb dX4_knows_22 (by decide) ?_
    exact hret _ _ _ (by first | with_reducible rfl | (simp only [s_knows, iF_f c1]; done) | contradiction) dX4_knows_23
  ·
    obtain ⟨jb, hjb, rfl⟩ := vp_in_of c1 (by omega)
    refine lv_aload_n hx hb dX4_knows_11 rfl (lv_at hl 0 rfl) ?_
    refine g_get (v := .ref st) hx hb hts ixX4_knows_X4 hown hK hP 0 rfl rfl 0 (by decide) lkX4_knows_12 rfl dX4_knows_12 ?_
    refine lv_iload_n hx hb dX4_knows_15 rfl (lv_at hl 2 rfl) ?_
    refine rdV (As := [.int m0]) (rest := []) (ci := 2) (q0 := 1) hE (kX2_hasMaster l G st ap ak ao M B m0 hM) (cwV 1 hts gX4_knows_X2_hasMaster rfl rfl rfl (by decide +kernel) ⟨Nat.le_of_ble_eq_true rfl, Nat.le_of_ble_eq_true rfl⟩) hP hK [1] rfl rfl rfl rfl hl.1 rfl (Nat.le_of_ble_eq_true rfl) dX4_knows_16 ⟨Nat.zero_le _, Nat.zero_le _⟩ ?_
    refine W.eq (g2 := F0 m 19 ls [.int (bI (vp_in m0 M))]) rfl ?_
    refine bz_ne (tgt := 24) hx hb dX4_knows_19 (by decide) (fun c2 => ?_) (fun c2 => ?_)
    ·
      obtain ⟨jm0, hjm0, rfl⟩ := vp_in_of c2 (by omega)
      refine lv_iload_n hx hb dX4_knows_24 rfl (lv_at hl 3 rfl) ?_
      refine lv_bipush (v := nI 60) hx hb dX4_knows_25 (by decide) ?_
      refine rdS (As := [.int n, .int (nI 60)]) (rest := []) hE (kX4_isWithin l G n 60 (by first | omega | assumption | exact hU _ (by omega) | exact hz _ (by omega))) (va_cwS 2 hts gX4_knows_X4_isWithin rfl rfl rfl (by decide +kernel) ⟨Nat.le_of_ble_eq_true rfl, Nat.le_of_ble_eq_true rfl⟩) hP hK [] rfl rfl hl.1 rfl (Nat.le_of_ble_eq_true rfl) dX4_knows_27 ⟨Nat.zero_le _, Nat.zero_le _⟩ ?_
      refine W.eq (g2 := F0 m 30 ls [.int (bI (vp_in n (60 + 1)))]) rfl ?_
      refine bz_ne (tgt := 36) hx hb dX4_knows_30 (by decide) (fun c3 => ?_) (fun c3 => ?_)
      ·
        obtain ⟨jn, hjn, rfl⟩ := vp_in_of c3 (by omega)
        refine lv_aload_n hx hb dX4_knows_36 rfl (lv_at hl 0 rfl) ?_
        refine g_get (v := .ref st) hx hb hts ixX4_knows_X4 hown hK hP 0 rfl rfl 0 (by decide) lkX4_knows_12 rfl dX4_knows_37 ?_
        refine lv_iload_n hx hb dX4_knows_40 rfl (lv_at hl 1 rfl) ?_
        refine lv_iload_n hx hb dX4_knows_41 rfl (lv_at hl 2 rfl) ?_
        refine lv_iload_n hx hb dX4_knows_42 rfl (lv_at hl 3 rfl) ?_
        refine rdV (As := [.int (nI jb), .int (nI jm0), .int (nI jn)]) (rest := []) (ci := 2) (q0 := 1) hE (kX2_knownBehind l G st ap ak ao M B P K U jb jm0 jn hM (by first | omega | assumption | exact hU _ (by omega) | exact hz _ (by omega)) (by first | omega | assumption | exact hU _ (by omega) | exact hz _ (by omega)) hjm0 (by first | omega | assumption | exact hU _ (by omega) | exact hz _ (by omega)) hz) (cwV 3 hts gX4_knows_X2_knownBehind rfl rfl rfl (by decide +kernel) ⟨Nat.le_of_ble_eq_true rfl, Nat.le_of_ble_eq_true rfl⟩) hP hK [1, 2, 3, 4] rfl rfl rfl rfl hl.1 rfl (Nat.le_of_ble_eq_true rfl) dX4_knows_43 ⟨Nat.zero_le _, Nat.zero_le _⟩ ?_
        refine W.eq (g2 := F0 m 46 ls [.int (kn P M jm0 (lrn (K jb)) (tn (U jb)) jn)]) rfl ?_
        exact hret _ _ _ (by first | with_reducible rfl | (simp only [s_knows, iF_t c1, iF_t c2, iF_t c3, tn_nI (show jb < 2 ^ 31 by omega), tn_nI (show jm0 < 2 ^ 31 by omega), tn_nI (show jn < 2 ^ 31 by omega)]; done) | contradiction) dX4_knows_46
      ·
        refine lv_bipush (v := (-2)) hx hb dX4_knows_33 (by decide) ?_
        exact hret _ _ _ (by first | with_reducible rfl | (simp only [s_knows, iF_t c1, iF_t c2, iF_f c3, tn_nI (show jb < 2 ^ 31 by omega), tn_nI (show jm0 < 2 ^ 31 by omega)]; done) | contradiction) dX4_knows_35
    ·
      refine lv_iconst (v := (-1)) hx hb dX4_knows_22 (by decide) ?_
      exact hret _ _ _ (by first | with_reducible rfl | (simp only [s_knows, iF_t c1, iF_f c2, tn_nI (show jb < 2 ^ 31 by omega)]; done) | contradiction) dX4_knows_23

theorem ixX4_able_X4 : ∀ w ∈ wsX40, w ∈ wsX4_able := fun _ h => List.mem_cons_of_mem _ (List.mem_append_left _ (List.mem_append_right _ h))
theorem lkX4_able_12 : Cond.fieldLink RX4 12 (TX4 0).1 (TX4 0).2.1 (TX4 0).2.2.1 ∈ wsX4_able := List.mem_of_getElem? (i := 1) rfl
theorem ixX4_able_X2 : ∀ w ∈ wsX20, w ∈ wsX4_able := fun _ h => List.mem_cons_of_mem _ (List.mem_append_right _ h)
set_option maxHeartbeats 4000000 in
set_option maxRecDepth 100000 in
theorem kX4_able (l : Launch) (G : Gl) (x : Nat) (st : Nat) (tr : Nat) (ra : Nat) (sa : Nat) (R : Nat) (tc : Int32) (fl : Int32) (ap : Nat) (ak : Nat) (ao : Nat) (M : Nat) (B : Nat) (P : Nat → Int32) (K : Nat → Int32) (U : Nat → Int32) (n : Int32) (hM : M ≤ 5) (hB : B ≤ 4) (hz : ∀ j, j < M → P (j * 5 + j) = nI 0) (hU : ∀ b, b < B → vp_in (U b) M) : Rd l G yX4_able wsX4_able ({ frames := 4, cells := 0, slots := 0, locals := 92 } : Room) [.ref x, .int n] [(x, .inr (4, [.ref st, .ref tr, .ref ra, .int (nI R), .ref sa, .int tc, .int fl])), (st, .inr (2, [.ref ap, .ref ak, .ref ao, .int (nI M), .int (nI B)])), (ap, aI G 25 P), (ak, aI G 4 K), (ao, aI G 4 U)] (some (.int (s_able B M P K U n))) := by
  refine Rd.ofI (cc := cX4_able) (maxL := 5) (by decide) rfl (Nat.le_of_ble_eq_true rfl) ?_
  intro p e s m below meth c Q ls hE hP hK hl hret
  obtain ⟨hx, hb, hml, hown, hts⟩ := id hE
  have hl : lv_has ls 5 [(0, .ref x), (1, .int n)] := hl
  refine lv_iload_n hx hb dX4_able_0 rfl (lv_at hl 1 rfl) ?_
  refine lv_bipush (v := nI 60) hx hb dX4_able_1 (by decide) ?_
  refine rdS (As := [.int n, .int (nI 60)]) (rest := []) hE (kX4_isWithin l G n 60 (by first | omega | assumption | exact hU _ (by omega) | exact hz _ (by omega))) (va_cwS 2 hts gX4_able_X4_isWithin rfl rfl rfl (by decide +kernel) ⟨Nat.le_of_ble_eq_true rfl, Nat.le_of_ble_eq_true rfl⟩) hP hK [] rfl rfl hl.1 rfl (Nat.le_of_ble_eq_true rfl) dX4_able_3 ⟨Nat.zero_le _, Nat.zero_le _⟩ ?_
  refine W.eq (g2 := F0 m 6 ls [.int (bI (vp_in n (60 + 1)))]) rfl ?_
  refine bz_ne (tgt := 12) hx hb dX4_able_6 (by decide) (fun c1 => ?_) (fun c1 => ?_)
  ·
    obtain ⟨jn, hjn, rfl⟩ := vp_in_of c1 (by omega)
    refine lv_aload_n hx hb dX4_able_12 rfl (lv_at hl 0 rfl) ?_
    refine g_get (v := .ref st) hx hb hts ixX4_able_X4 hown hK hP 0 rfl rfl 0 (by decide) lkX4_able_12 rfl dX4_able_13 ?_
    refine g_getN (v := .int (nI M)) hx hb hts ixX4_able_X2 hown hK hP 1 rfl rfl 3 (by decide) nkX4_119 rfl dX4_able_16 ?_
    refine iz_ne (tgt := 25) hx hb (by omega) dX4_able_19 (by decide) (fun c2 => ?_) (fun c2 => ?_)
    ·
      refine lv_iconst (v := nI 0) hx hb dX4_able_25 (by decide) ?_
      refine lv_istore_n (lv' := [(2, .int (nI 0)), (0, .ref x), (1, .int (nI jn))]) hx hb dX4_able_26 rfl hl (by decide) rfl (fun ls hl => ?_)
      refine lv_iconst (v := nI 0) hx hb dX4_able_27 (by decide) ?_
      refine lv_istore_n (lv' := [(3, .int (nI 0)), (2, .int (nI 0)), (0, .ref x), (1, .int (nI jn))]) hx hb dX4_able_28 rfl hl (by decide) rfl (fun ls hl => ?_)
      have loop1 : ∀ (d k : Nat) (ls : Array Slot), B < k + d → k ≤ B → lv_has ls 5 [(3, .int (nI k)), (2, .int (ab P M K U jn k)), (0, .ref x), (1, .int (nI jn))] → W p l e ({ frames := 4, cells := 0, slots := 0, locals := 92 } : Room) s m ([.ref x, .int (nI jn)] : List Value).toArray below meth c s.heap [] 0 0 Q (F0 m 29 ls []) := by
        intro d
        induction d with
        | zero =>
          intro k ls h1 h2
          omega
        | succ d ih1 =>
          intro k ls hdk hbk hl
          refine lv_iload_n hx hb dX4_able_29 rfl (lv_at hl 0 rfl) ?_
          refine lv_aload_n hx hb dX4_able_30 rfl (lv_at hl 2 rfl) ?_
          refine g_get (v := .ref st) hx hb hts ixX4_able_X4 hown hK hP 0 rfl rfl 0 (by decide) lkX4_able_12 rfl dX4_able_31 ?_
          refine g_getN (v := .int (nI B)) hx hb hts ixX4_able_X2 hown hK hP 1 rfl rfl 4 (by decide) nkX4_76 rfl dX4_able_34 ?_
          refine ic_ge (tgt := 80) hx hb (by omega) (by omega) dX4_able_37 (by decide) (fun c3 => ?_) (fun c3 => ?_)
          ·
            obtain rfl : B = k := by omega
            refine lv_iload_n hx hb dX4_able_80 rfl (lv_at hl 1 rfl) ?_
            exact hret _ _ _ (by first | with_reducible rfl | (simp only [s_able, iF_t c1, iF_f c2, iF_f (Nat.not_lt.mpr c3), tn_nI (show jn < 2 ^ 31 by omega)]; done) | contradiction) dX4_able_81
          ·
            refine lv_aload_n hx hb dX4_able_40 rfl (lv_at hl 2 rfl) ?_
            refine g_get (v := .ref st) hx hb hts ixX4_able_X4 hown hK hP 0 rfl rfl 0 (by decide) lkX4_able_12 rfl dX4_able_41 ?_
            refine lv_iload_n hx hb dX4_able_44 rfl (lv_at hl 0 rfl) ?_
            refine lv_iload_n hx hb dX4_able_45 rfl (lv_at hl 3 rfl) ?_
            refine rdV (As := [.int (nI k), .int (nI jn)]) (rest := []) (ci := 2) (q0 := 1) hE (kX2_masterBehind l G st ap ak ao M B P U k jn hM (by first | omega | assumption | exact hU _ (by omega) | exact hz _ (by omega)) (by first | omega | assumption | exact hU _ (by omega) | exact hz _ (by omega)) (by first | omega | assumption | exact hU _ (by omega) | exact hz _ (by omega)) hz) (cwV 2 hts gX4_able_X2_masterBehind rfl rfl rfl (by decide +kernel) ⟨Nat.le_of_ble_eq_true rfl, Nat.le_of_ble_eq_true rfl⟩) hP hK [1, 2, 4] rfl rfl rfl rfl hl.1 rfl (Nat.le_of_ble_eq_true rfl) dX4_able_46 ⟨Nat.zero_le _, Nat.zero_le _⟩ ?_
            refine W.eq (g2 := F0 m 49 ls [.int (nI (wh P M (tn (U k)) jn))]) rfl ?_
            refine lv_istore (lv' := [(4, .int (nI (wh P M (tn (U k)) jn))), (3, .int (nI k)), (2, .int (ab P M K U jn k)), (0, .ref x), (1, .int (nI jn))]) hx hb dX4_able_49 hl (by decide) rfl (fun ls hl => ?_)
            have hwl := wh_lt (P := P) (tn_lt (hU k (by omega)) (by omega)) jn
            refine lv_aload_n hx hb dX4_able_51 rfl (lv_at hl 3 rfl) ?_
            refine g_get (v := .ref st) hx hb hts ixX4_able_X4 hown hK hP 0 rfl rfl 0 (by decide) lkX4_able_12 rfl dX4_able_52 ?_
            refine lv_iload_n hx hb dX4_able_55 rfl (lv_at hl 1 rfl) ?_
            refine lv_iload hx hb dX4_able_56 (lv_at hl 0 rfl) ?_
            refine lv_iload_n hx hb dX4_able_58 rfl (lv_at hl 4 rfl) ?_
            refine rdV (As := [.int (nI k), .int (nI (wh P M (tn (U k)) jn)), .int (nI jn)]) (rest := []) (ci := 2) (q0 := 1) hE (kX2_knownBehind l G st ap ak ao M B P K U k (wh P M (tn (U k)) jn) jn hM (by first | omega | assumption | exact hU _ (by omega) | exact hz _ (by omega)) (by first | omega | assumption | exact hU _ (by omega) | exact hz _ (by omega)) (by first | omega | assumption | exact hU _ (by omega) | exact hz _ (by omega)) (by first | omega | assumption | exact hU _ (by omega) | exact hz _ (by omega)) hz) (cwV 3 hts gX4_able_X2_knownBehind rfl rfl rfl (by decide +kernel) ⟨Nat.le_of_ble_eq_true rfl, Nat.le_of_ble_eq_true rfl⟩) hP hK [1, 2, 3, 4] rfl rfl rfl rfl hl.1 rfl (Nat.le_of_ble_eq_true rfl) dX4_able_59 ⟨Nat.zero_le _, Nat.zero_le _⟩ ?_
            refine W.eq (g2 := F0 m 62 ls [.int (kn P M (wh P M (tn (U k)) jn) (lrn (K k)) (tn (U k)) jn)]) rfl ?_
            refine lv_bipush (v := nI 9) hx hb dX4_able_62 (by decide) ?_
            refine lv_icmp_lt (tgt := 74) hx hb dX4_able_64 (by decide) (fun c4 => ?_) (fun c4 => ?_)
            ·
              refine lv_iinc (v := nI (k + 1)) (lv' := [(3, .int (nI (k + 1))), (4, .int (nI (wh P M (tn (U k)) jn))), (2, .int (ab P M K U jn k)), (0, .ref x), (1, .int (nI jn))]) hx hb dX4_able_74 hl (k := 1) rfl (show nI k + Int32.ofInt 1 = nI (k + 1) from nI_add _ 1) (by decide) rfl (fun ls hl => ?_)
              refine lv_goto (tgt := 29) hx hb dX4_able_77 (by decide) ?_
              have hl5 : lv_has ls 5 [(3, .int (nI (k + 1))), (2, .int (ab P M K U jn (k + 1))), (0, .ref x), (1, .int (nI jn))] := by
                rw [show (ab P M K U jn (k + 1)) = (ab P M K U jn k) from by first | rfl | simp only [ab, iF_t c1, iF_f c2, iF_t c3, iF_t c4, iF_f (i32_lt c4), tn_nI (show jn < 2 ^ 31 by omega)]]
                exact (lv_sub hl [0, 2, 3, 4] rfl)
              exact ih1 (k + 1) ls (by omega) (by omega) hl5
            ·
              refine lv_iload_n hx hb dX4_able_67 rfl (lv_at hl 2 rfl) ?_
              refine lv_iconst (v := nI 1) hx hb dX4_able_68 (by decide) ?_
              refine lv_iload hx hb dX4_able_69 (lv_at hl 0 rfl) ?_
              refine lv_ishl hx hb dX4_able_71 ?_
              refine lv_ior hx hb dX4_able_72 ?_
              refine lv_istore_n (lv' := [(2, .int ((ab P M K U jn k) ||| ((nI 1) <<< (nI (wh P M (tn (U k)) jn) &&& 31)))), (4, .int (nI (wh P M (tn (U k)) jn))), (3, .int (nI k)), (0, .ref x), (1, .int (nI jn))]) hx hb dX4_able_73 rfl hl (by decide) rfl (fun ls hl => ?_)
              refine lv_iinc (v := nI (k + 1)) (lv' := [(3, .int (nI (k + 1))), (2, .int ((ab P M K U jn k) ||| ((nI 1) <<< (nI (wh P M (tn (U k)) jn) &&& 31)))), (4, .int (nI (wh P M (tn (U k)) jn))), (0, .ref x), (1, .int (nI jn))]) hx hb dX4_able_74 hl (k := 2) rfl (show nI k + Int32.ofInt 1 = nI (k + 1) from nI_add _ 1) (by decide) rfl (fun ls hl => ?_)
              refine lv_goto (tgt := 29) hx hb dX4_able_77 (by decide) ?_
              have hl6 : lv_has ls 5 [(3, .int (nI (k + 1))), (2, .int (ab P M K U jn (k + 1))), (0, .ref x), (1, .int (nI jn))] := by
                rw [show (ab P M K U jn (k + 1)) = ((ab P M K U jn k) ||| ((nI 1) <<< (nI (wh P M (tn (U k)) jn) &&& 31))) from by first | rfl | simp only [ab, iF_t c1, iF_f c2, iF_t c3, iF_f c4, iF_t (i32_nlt c4), tn_nI (show jn < 2 ^ 31 by omega)]]
                exact (lv_sub hl [0, 1, 3, 4] rfl)
              exact ih1 (k + 1) ls (by omega) (by omega) hl6
      have hl7 : lv_has ls 5 [(3, .int (nI 0)), (2, .int (ab P M K U jn 0)), (0, .ref x), (1, .int (nI jn))] := by
        rw [show (ab P M K U jn 0) = (nI 0) from by first | rfl | simp only [ab, iF_t c1, iF_f c2, tn_nI (show jn < 2 ^ 31 by omega)]]
        exact (lv_sub hl [0, 1, 2, 3] rfl)
      exact loop1 (B + 1) 0 ls (by omega) (by omega) hl7
    ·
      refine lv_bipush (v := (-3)) hx hb dX4_able_22 (by decide) ?_
      exact hret _ _ _ (by first | with_reducible rfl | (simp only [s_able, iF_t c1, iF_t c2, tn_nI (show jn < 2 ^ 31 by omega)]; done) | contradiction) dX4_able_24
  ·
    refine lv_bipush (v := (-2)) hx hb dX4_able_9 (by decide) ?_
    exact hret _ _ _ (by first | with_reducible rfl | (simp only [s_able, iF_f c1]; done) | contradiction) dX4_able_11

theorem ixX4_ring_X4 : ∀ w ∈ wsX40, w ∈ wsX4_ring := fun _ h => List.mem_cons_of_mem _ (List.mem_append_left _ (List.mem_append_right _ h))
theorem lkX4_ring_12 : Cond.fieldLink RX4 12 (TX4 0).1 (TX4 0).2.1 (TX4 0).2.2.1 ∈ wsX4_ring := List.mem_of_getElem? (i := 1) rfl
theorem ixX4_ring_X2 : ∀ w ∈ wsX20, w ∈ wsX4_ring := fun _ h => List.mem_cons_of_mem _ (List.mem_append_right _ h)
set_option maxHeartbeats 4000000 in
set_option maxRecDepth 100000 in
theorem kX4_ring (l : Launch) (G : Gl) (x : Nat) (st : Nat) (tr : Nat) (ra : Nat) (sa : Nat) (R : Nat) (tc : Int32) (fl : Int32) (ap : Nat) (ak : Nat) (ao : Nat) (M : Nat) (B : Nat) (P : Nat → Int32) (m0 : Int32) (hM : M ≤ 5) (hz : ∀ j, j < M → P (j * 5 + j) = nI 0) : Rd l G yX4_ring wsX4_ring ({ frames := 3, cells := 0, slots := 0, locals := 70 } : Room) [.ref x, .int m0] [(x, .inr (4, [.ref st, .ref tr, .ref ra, .int (nI R), .ref sa, .int tc, .int fl])), (st, .inr (2, [.ref ap, .ref ak, .ref ao, .int (nI M), .int (nI B)])), (ap, aI G 25 P)] (some (.int (s_ring M P m0))) := by
  refine Rd.ofI (cc := cX4_ring) (maxL := 3) (by decide) rfl (Nat.le_of_ble_eq_true rfl) ?_
  intro p e s m below meth c Q ls hE hP hK hl hret
  obtain ⟨hx, hb, hml, hown, hts⟩ := id hE
  have hl : lv_has ls 3 [(0, .ref x), (1, .int m0)] := hl
  refine lv_aload_n hx hb dX4_ring_0 rfl (lv_at hl 0 rfl) ?_
  refine g_get (v := .ref st) hx hb hts ixX4_ring_X4 hown hK hP 0 rfl rfl 0 (by decide) lkX4_ring_12 rfl dX4_ring_1 ?_
  refine lv_iload_n hx hb dX4_ring_4 rfl (lv_at hl 1 rfl) ?_
  refine rdV (As := [.int m0]) (rest := []) (ci := 2) (q0 := 1) hE (kX2_hasMaster l G st ap ak ao M B m0 hM) (cwV 1 hts gX4_ring_X2_hasMaster rfl rfl rfl (by decide +kernel) ⟨Nat.le_of_ble_eq_true rfl, Nat.le_of_ble_eq_true rfl⟩) hP hK [1] rfl rfl rfl rfl hl.1 rfl (Nat.le_of_ble_eq_true rfl) dX4_ring_5 ⟨Nat.zero_le _, Nat.zero_le _⟩ ?_
  refine W.eq (g2 := F0 m 8 ls [.int (bI (vp_in m0 M))]) rfl ?_
  refine bz_ne (tgt := 13) hx hb dX4_ring_8 (by decide) (fun c1 => ?_) (fun c1 => ?_)
  ·
    obtain ⟨jm0, hjm0, rfl⟩ := vp_in_of c1 (by omega)
    refine lv_aload_n hx hb dX4_ring_13 rfl (lv_at hl 0 rfl) ?_
    refine g_get (v := .ref st) hx hb hts ixX4_ring_X4 hown hK hP 0 rfl rfl 0 (by decide) lkX4_ring_12 rfl dX4_ring_14 ?_
    refine lv_iload_n hx hb dX4_ring_17 rfl (lv_at hl 1 rfl) ?_
    refine lv_aload_n hx hb dX4_ring_18 rfl (lv_at hl 0 rfl) ?_
    refine g_get (v := .ref st) hx hb hts ixX4_ring_X4 hown hK hP 0 rfl rfl 0 (by decide) lkX4_ring_12 rfl dX4_ring_19 ?_
    refine g_getN (v := .int (nI M)) hx hb hts ixX4_ring_X2 hown hK hP 1 rfl rfl 3 (by decide) nkX4_119 rfl dX4_ring_22 ?_
    refine rdV (As := [.int (nI jm0), .int (nI M)]) (rest := []) (ci := 2) (q0 := 1) hE (kX2_stepsFrom l G st ap ak ao M B P jm0 M hM hjm0 (by first | omega | assumption | exact hU _ (by omega) | exact hz _ (by omega)) hz) (cwV 2 hts gX4_ring_X2_stepsFrom rfl rfl rfl (by decide +kernel) ⟨Nat.le_of_ble_eq_true rfl, Nat.le_of_ble_eq_true rfl⟩) hP hK [1, 2] rfl rfl rfl rfl hl.1 rfl (Nat.le_of_ble_eq_true rfl) dX4_ring_25 ⟨Nat.zero_le _, Nat.zero_le _⟩ ?_
    refine W.eq (g2 := F0 m 28 ls [.int (nI (wh P M jm0 M))]) rfl ?_
    refine lv_istore_n (lv' := [(2, .int (nI (wh P M jm0 M))), (0, .ref x), (1, .int (nI jm0))]) hx hb dX4_ring_28 rfl hl (by decide) rfl (fun ls hl => ?_)
    have hwl := wh_lt (P := P) (show jm0 < M by omega) M
    refine lv_aload_n hx hb dX4_ring_29 rfl (lv_at hl 1 rfl) ?_
    refine g_get (v := .ref st) hx hb hts ixX4_ring_X4 hown hK hP 0 rfl rfl 0 (by decide) lkX4_ring_12 rfl dX4_ring_30 ?_
    refine lv_iload_n hx hb dX4_ring_33 rfl (lv_at hl 0 rfl) ?_
    refine rdV (As := [.int (nI (wh P M jm0 M))]) (rest := []) (ci := 2) (q0 := 1) hE (kX2_metFrom l G st ap ak ao M B P (wh P M jm0 M) hM (by first | omega | assumption | exact hU _ (by omega) | exact hz _ (by omega)) hz) (cwV 1 hts gX4_ring_X2_metFrom rfl rfl rfl (by decide +kernel) ⟨Nat.le_of_ble_eq_true rfl, Nat.le_of_ble_eq_true rfl⟩) hP hK [1, 2] rfl rfl rfl rfl hl.1 rfl (Nat.le_of_ble_eq_true rfl) dX4_ring_34 ⟨Nat.zero_le _, Nat.zero_le _⟩ ?_
    refine W.eq (g2 := F0 m 37 ls [.int (mt P M (wh P M jm0 M) M)]) rfl ?_
    exact hret _ _ _ (by first | with_reducible rfl | (simp only [s_ring, iF_t c1, tn_nI (show jm0 < 2 ^ 31 by omega)]; done) | contradiction) dX4_ring_37
  ·
    refine lv_iconst (v := (-1)) hx hb dX4_ring_11 (by decide) ?_
    exact hret _ _ _ (by first | with_reducible rfl | (simp only [s_ring, iF_f c1]; done) | contradiction) dX4_ring_12

theorem ixX4_home_X4 : ∀ w ∈ wsX40, w ∈ wsX4_home := fun _ h => List.mem_cons_of_mem _ (List.mem_append_left _ (List.mem_append_right _ h))
theorem lkX4_home_12 : Cond.fieldLink RX4 12 (TX4 0).1 (TX4 0).2.1 (TX4 0).2.2.1 ∈ wsX4_home := List.mem_of_getElem? (i := 1) rfl
theorem ixX4_home_X2 : ∀ w ∈ wsX20, w ∈ wsX4_home := fun _ h => List.mem_cons_of_mem _ (List.mem_append_right _ h)
set_option maxHeartbeats 4000000 in
set_option maxRecDepth 100000 in
theorem kX4_home (l : Launch) (G : Gl) (x : Nat) (st : Nat) (tr : Nat) (ra : Nat) (sa : Nat) (R : Nat) (tc : Int32) (fl : Int32) (ap : Nat) (ak : Nat) (ao : Nat) (M : Nat) (B : Nat) (P : Nat → Int32) (U : Nat → Int32) (b : Int32) (hM : M ≤ 5) (hB : B ≤ 4) (hz : ∀ j, j < M → P (j * 5 + j) = nI 0) (hU : ∀ b, b < B → vp_in (U b) M) : Rd l G yX4_home wsX4_home ({ frames := 4, cells := 0, slots := 0, locals := 92 } : Room) [.ref x, .int b] [(x, .inr (4, [.ref st, .ref tr, .ref ra, .int (nI R), .ref sa, .int tc, .int fl])), (st, .inr (2, [.ref ap, .ref ak, .ref ao, .int (nI M), .int (nI B)])), (ap, aI G 25 P), (ao, aI G 4 U)] (some (.int (s_home B M P U b))) := by
  refine Rd.ofI (cc := cX4_home) (maxL := 3) (by decide) rfl (Nat.le_of_ble_eq_true rfl) ?_
  intro p e s m below meth c Q ls hE hP hK hl hret
  obtain ⟨hx, hb, hml, hown, hts⟩ := id hE
  have hl : lv_has ls 3 [(0, .ref x), (1, .int b)] := hl
  refine lv_aload_n hx hb dX4_home_0 rfl (lv_at hl 0 rfl) ?_
  refine g_get (v := .ref st) hx hb hts ixX4_home_X4 hown hK hP 0 rfl rfl 0 (by decide) lkX4_home_12 rfl dX4_home_1 ?_
  refine lv_iload_n hx hb dX4_home_4 rfl (lv_at hl 1 rfl) ?_
  refine rdV (As := [.int b]) (rest := []) (ci := 2) (q0 := 1) hE (kX2_hasBoy l G st ap ak ao M B b hB) (cwV 1 hts gX4_home_X2_hasBoy rfl rfl rfl (by decide +kernel) ⟨Nat.le_of_ble_eq_true rfl, Nat.le_of_ble_eq_true rfl⟩) hP hK [1] rfl rfl rfl rfl hl.1 rfl (Nat.le_of_ble_eq_true rfl) dX4_home_5 ⟨Nat.zero_le _, Nat.zero_le _⟩ ?_
  refine W.eq (g2 := F0 m 8 ls [.int (bI (vp_in b B))]) rfl ?_
  refine bz_ne (tgt := 13) hx hb dX4_home_8 (by decide) (fun c1 => ?_) (fun c1 => ?_)
  ·
    obtain ⟨jb, hjb, rfl⟩ := vp_in_of c1 (by omega)
    refine lv_iconst (v := nI 1) hx hb dX4_home_13 (by decide) ?_
    refine lv_istore_n (lv' := [(2, .int (nI 1)), (0, .ref x), (1, .int (nI jb))]) hx hb dX4_home_14 rfl hl (by decide) rfl (fun ls hl => ?_)
    have loop1 : ∀ (d k : Nat) (ls : Array Slot), M < k + d → k ≤ M → (fi (fun k => wh P M (tn (U jb)) (k + 1) = tn (U jb)) k = none) → lv_has ls 3 [(2, .int (nI (k + 1))), (0, .ref x), (1, .int (nI jb))] → W p l e ({ frames := 4, cells := 0, slots := 0, locals := 92 } : Room) s m ([.ref x, .int (nI jb)] : List Value).toArray below meth c s.heap [] 0 0 Q (F0 m 15 ls []) := by
      intro d
      induction d with
      | zero =>
        intro k ls h1 h2
        omega
      | succ d ih1 =>
        intro k ls hdk hbk hk hl
        refine lv_iload_n hx hb dX4_home_15 rfl (lv_at hl 0 rfl) ?_
        refine lv_aload_n hx hb dX4_home_16 rfl (lv_at hl 1 rfl) ?_
        refine g_get (v := .ref st) hx hb hts ixX4_home_X4 hown hK hP 0 rfl rfl 0 (by decide) lkX4_home_12 rfl dX4_home_17 ?_
        refine g_getN (v := .int (nI M)) hx hb hts ixX4_home_X2 hown hK hP 1 rfl rfl 3 (by decide) nkX4_119 rfl dX4_home_20 ?_
        refine ic_gt (tgt := 55) hx hb (by omega) (by omega) dX4_home_23 (by decide) (fun c2 => ?_) (fun c2 => ?_)
        ·
          obtain rfl : M = k := by omega
          refine lv_bipush (v := (-9)) hx hb dX4_home_55 (by decide) ?_
          exact hret _ _ _ (by simp only [s_home, hmf, iF_t c1, tn_nI (show jb < 2 ^ 31 by omega)]; rw [hk]; rfl) dX4_home_57
        ·
          refine lv_aload_n hx hb dX4_home_26 rfl (lv_at hl 1 rfl) ?_
          refine g_get (v := .ref st) hx hb hts ixX4_home_X4 hown hK hP 0 rfl rfl 0 (by decide) lkX4_home_12 rfl dX4_home_27 ?_
          refine lv_iload_n hx hb dX4_home_30 rfl (lv_at hl 2 rfl) ?_
          refine lv_iload_n hx hb dX4_home_31 rfl (lv_at hl 0 rfl) ?_
          refine rdV (As := [.int (nI jb), .int (nI (k + 1))]) (rest := []) (ci := 2) (q0 := 1) hE (kX2_masterBehind l G st ap ak ao M B P U jb (k + 1) hM (by first | omega | assumption | exact hU _ (by omega) | exact hz _ (by omega)) (by first | omega | assumption | exact hU _ (by omega) | exact hz _ (by omega)) (by first | omega | assumption | exact hU _ (by omega) | exact hz _ (by omega)) hz) (cwV 2 hts gX4_home_X2_masterBehind rfl rfl rfl (by decide +kernel) ⟨Nat.le_of_ble_eq_true rfl, Nat.le_of_ble_eq_true rfl⟩) hP hK [1, 2, 3] rfl rfl rfl rfl hl.1 rfl (Nat.le_of_ble_eq_true rfl) dX4_home_32 ⟨Nat.zero_le _, Nat.zero_le _⟩ ?_
          refine W.eq (g2 := F0 m 35 ls [.int (nI (wh P M (tn (U jb)) (k + 1)))]) rfl ?_
          refine lv_aload_n hx hb dX4_home_35 rfl (lv_at hl 1 rfl) ?_
          refine g_get (v := .ref st) hx hb hts ixX4_home_X4 hown hK hP 0 rfl rfl 0 (by decide) lkX4_home_12 rfl dX4_home_36 ?_
          refine g_getN (v := .ref ao) hx hb hts ixX4_home_X2 hown hK hP 1 rfl rfl 2 (by decide) nkX4_86 rfl dX4_home_39 ?_
          refine lv_iload_n hx hb dX4_home_42 rfl (lv_at hl 2 rfl) ?_
          refine n_ald hx hb hK hP 3 rfl (k := jb) (by omega) (by decide) dX4_home_43 ?_
          refine lv_tope (show U jb = nI (tn (U jb)) from tn_of (hU jb hjb) (by omega)) ?_
          have hwl := wh_lt (P := P) (tn_lt (hU jb hjb) (by omega)) (k + 1)
          have hul := tn_lt (hU jb hjb) (by omega)
          refine ic_ne (tgt := 49) hx hb (by omega) (by omega) dX4_home_44 (by decide) (fun c3 => ?_) (fun c3 => ?_)
          ·
            refine lv_iinc (v := nI ((k + 1) + 1)) (lv' := [(2, .int (nI ((k + 1) + 1))), (0, .ref x), (1, .int (nI jb))]) hx hb dX4_home_49 hl (k := 0) rfl (show nI (k + 1) + Int32.ofInt 1 = nI ((k + 1) + 1) from nI_add _ 1) (by decide) rfl (fun ls hl => ?_)
            refine lv_goto (tgt := 15) hx hb dX4_home_52 (by decide) ?_
            exact ih1 (k + 1) ls (by omega) (by omega) (fi_miss hk c3) (lv_sub hl [0, 1, 2] rfl)
          ·
            refine lv_iload_n hx hb dX4_home_47 rfl (lv_at hl 0 rfl) ?_
            exact hret _ _ _ (by simp only [s_home, hmf, iF_t c1, tn_nI (show jb < 2 ^ 31 by omega)]; rw [fi_hit hk c3 (by omega)]; rfl) dX4_home_48
    have hl4 : lv_has ls 3 [(2, .int (nI (0 + 1))), (0, .ref x), (1, .int (nI jb))] := by
      rw [show (nI (0 + 1)) = (nI 1) from by first | rfl | simp only [iF_t c1, tn_nI (show jb < 2 ^ 31 by omega)]]
      exact (lv_sub hl [0, 1, 2] rfl)
    exact loop1 (M + 1) 0 ls (by omega) (by omega) rfl hl4
  ·
    refine lv_iconst (v := (-1)) hx hb dX4_home_11 (by decide) ?_
    exact hret _ _ _ (by first | with_reducible rfl | (simp only [s_home, iF_f c1]; done) | contradiction) dX4_home_12

theorem ixX4_never_X4 : ∀ w ∈ wsX40, w ∈ wsX4_never := fun _ h => List.mem_cons_of_mem _ (List.mem_append_left _ (List.mem_append_right _ h))
theorem lkX4_never_12 : Cond.fieldLink RX4 12 (TX4 0).1 (TX4 0).2.1 (TX4 0).2.2.1 ∈ wsX4_never := List.mem_of_getElem? (i := 1) rfl
theorem ixX4_never_X2 : ∀ w ∈ wsX20, w ∈ wsX4_never := fun _ h => List.mem_cons_of_mem _ (List.mem_append_right _ h)
set_option maxHeartbeats 4000000 in
set_option maxRecDepth 100000 in
theorem kX4_never (l : Launch) (G : Gl) (x : Nat) (st : Nat) (tr : Nat) (ra : Nat) (sa : Nat) (R : Nat) (tc : Int32) (fl : Int32) (ap : Nat) (ak : Nat) (ao : Nat) (M : Nat) (B : Nat) (P : Nat → Int32) (U : Nat → Int32) (b : Int32) (hM : M ≤ 5) (hB : B ≤ 4) (hz : ∀ j, j < M → P (j * 5 + j) = nI 0) (hU : ∀ b, b < B → vp_in (U b) M) : Rd l G yX4_never wsX4_never ({ frames := 3, cells := 0, slots := 0, locals := 70 } : Room) [.ref x, .int b] [(x, .inr (4, [.ref st, .ref tr, .ref ra, .int (nI R), .ref sa, .int tc, .int fl])), (st, .inr (2, [.ref ap, .ref ak, .ref ao, .int (nI M), .int (nI B)])), (ap, aI G 25 P), (ao, aI G 4 U)] (some (.int (s_never B M P U b))) := by
  refine Rd.ofI (cc := cX4_never) (maxL := 2) (by decide) rfl (Nat.le_of_ble_eq_true rfl) ?_
  intro p e s m below meth c Q ls hE hP hK hl hret
  obtain ⟨hx, hb, hml, hown, hts⟩ := id hE
  have hl : lv_has ls 2 [(0, .ref x), (1, .int b)] := hl
  refine lv_aload_n hx hb dX4_never_0 rfl (lv_at hl 0 rfl) ?_
  refine g_get (v := .ref st) hx hb hts ixX4_never_X4 hown hK hP 0 rfl rfl 0 (by decide) lkX4_never_12 rfl dX4_never_1 ?_
  refine lv_iload_n hx hb dX4_never_4 rfl (lv_at hl 1 rfl) ?_
  refine rdV (As := [.int b]) (rest := []) (ci := 2) (q0 := 1) hE (kX2_hasBoy l G st ap ak ao M B b hB) (cwV 1 hts gX4_never_X2_hasBoy rfl rfl rfl (by decide +kernel) ⟨Nat.le_of_ble_eq_true rfl, Nat.le_of_ble_eq_true rfl⟩) hP hK [1] rfl rfl rfl rfl hl.1 rfl (Nat.le_of_ble_eq_true rfl) dX4_never_5 ⟨Nat.zero_le _, Nat.zero_le _⟩ ?_
  refine W.eq (g2 := F0 m 8 ls [.int (bI (vp_in b B))]) rfl ?_
  refine bz_ne (tgt := 13) hx hb dX4_never_8 (by decide) (fun c1 => ?_) (fun c1 => ?_)
  ·
    obtain ⟨jb, hjb, rfl⟩ := vp_in_of c1 (by omega)
    refine lv_aload_n hx hb dX4_never_13 rfl (lv_at hl 0 rfl) ?_
    refine g_get (v := .ref st) hx hb hts ixX4_never_X4 hown hK hP 0 rfl rfl 0 (by decide) lkX4_never_12 rfl dX4_never_14 ?_
    refine rdV (As := []) (rest := []) (ci := 2) (q0 := 1) hE (kX2_allMasters l G st ap ak ao M B ) (cwV 0 hts gX4_never_X2_allMasters rfl rfl rfl (by decide +kernel) ⟨Nat.le_of_ble_eq_true rfl, Nat.le_of_ble_eq_true rfl⟩) hP hK [1] rfl rfl rfl rfl hl.1 rfl (Nat.le_of_ble_eq_true rfl) dX4_never_17 ⟨Nat.zero_le _, Nat.zero_le _⟩ ?_
    refine W.eq (g2 := F0 m 20 ls [.int (nI 1 <<< (nI M &&& 31) - nI 1)]) rfl ?_
    refine lv_aload_n hx hb dX4_never_20 rfl (lv_at hl 0 rfl) ?_
    refine g_get (v := .ref st) hx hb hts ixX4_never_X4 hown hK hP 0 rfl rfl 0 (by decide) lkX4_never_12 rfl dX4_never_21 ?_
    refine lv_aload_n hx hb dX4_never_24 rfl (lv_at hl 0 rfl) ?_
    refine g_get (v := .ref st) hx hb hts ixX4_never_X4 hown hK hP 0 rfl rfl 0 (by decide) lkX4_never_12 rfl dX4_never_25 ?_
    refine g_getN (v := .ref ao) hx hb hts ixX4_never_X2 hown hK hP 1 rfl rfl 2 (by decide) nkX4_86 rfl dX4_never_28 ?_
    refine lv_iload_n hx hb dX4_never_31 rfl (lv_at hl 1 rfl) ?_
    refine n_ald hx hb hK hP 3 rfl (k := jb) (by omega) (by decide) dX4_never_32 ?_
    refine lv_tope (show U jb = nI (tn (U jb)) from tn_of (hU jb hjb) (by omega)) ?_
    have hul := tn_lt (hU jb hjb) (by omega)
    refine rdV (As := [.int (nI (tn (U jb)))]) (rest := [.int (nI 1 <<< (nI M &&& 31) - nI 1)]) (ci := 2) (q0 := 1) hE (kX2_metFrom l G st ap ak ao M B P (tn (U jb)) hM (by first | omega | assumption | exact hU _ (by omega) | exact hz _ (by omega)) hz) (cwV 1 hts gX4_never_X2_metFrom rfl rfl rfl (by decide +kernel) ⟨Nat.le_of_ble_eq_true rfl, Nat.le_of_ble_eq_true rfl⟩) hP hK [1, 2] rfl rfl rfl rfl hl.1 rfl (Nat.le_of_ble_eq_true rfl) dX4_never_33 ⟨Nat.zero_le _, Nat.zero_le _⟩ ?_
    refine W.eq (g2 := F0 m 36 ls [.int (mt P M (tn (U jb)) M), .int (nI 1 <<< (nI M &&& 31) - nI 1)]) rfl ?_
    refine lv_iconst (v := (-1)) hx hb dX4_never_36 (by decide) ?_
    refine lv_ixor hx hb dX4_never_37 ?_
    refine lv_iand hx hb dX4_never_38 ?_
    exact hret _ _ _ (by first | with_reducible rfl | (simp only [s_never, iF_t c1, tn_nI (show jb < 2 ^ 31 by omega)]; done) | contradiction) dX4_never_39
  ·
    refine lv_iconst (v := (-1)) hx hb dX4_never_11 (by decide) ?_
    exact hret _ _ _ (by first | with_reducible rfl | (simp only [s_never, iF_f c1]; done) | contradiction) dX4_never_12
