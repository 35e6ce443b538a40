theorem ixX2_hasMaster_X2 : ∀ w ∈ wsX20, w ∈ wsX2_hasMaster := fun _ h => List.mem_cons_of_mem _ (List.mem_append_right _ h)
theorem lkX2_hasMaster_21 : Cond.fieldLink RX2 21 (TX2 3).1 (TX2 3).2.1 (TX2 3).2.2.1 ∈ wsX2_hasMaster := List.mem_of_getElem? (i := 1) rfl
set_option maxHeartbeats 4000000 in
set_option maxRecDepth 100000 in
theorem kX2_hasMaster (l : Launch) (G : Gl) (t : Nat) (ap : Nat) (ak : Nat) (ao : Nat) (M : Nat) (B : Nat) (x : Int32) (hM : M ≤ 5) : Rd l G yX2_hasMaster wsX2_hasMaster ({ frames := 0, cells := 0, slots := 0, locals := 0 } : Room) [.ref t, .int x] [(t, .inr (2, [.ref ap, .ref ak, .ref ao, .int (nI M), .int (nI B)]))] (some (.int (bI (vp_in x M)))) := by
  refine Rd.ofZ (cc := cX2_hasMaster) (maxL := 2) (by decide) rfl (Nat.le_of_ble_eq_true rfl) ?_
  intro p e s m below meth c Q ls hE hP hK hl hret
  obtain ⟨hx, hb, hml, hown, hts⟩ := id hE
  have hl : lv_has ls 2 [(0, .ref t), (1, .int x)] := hl
  refine lv_iload_n hx hb dX2_hasMaster_0 rfl (lv_at hl 1 rfl) ?_
  refine lv_if_lt (tgt := 16) hx hb dX2_hasMaster_1 (by decide) (fun c1 => ?_) (fun c1 => ?_)
  ·
    refine lv_iconst (v := nI 0) hx hb dX2_hasMaster_16 (by decide) ?_
    exact hret _ _ _ (by first | exact (bI_t (vin_t c1 c1 (by omega))).symm | exact (bI_f (vin_f1 c1)).symm | exact (bI_f (vin_f2 c1 (by omega))).symm | exact (bI_t (vin_t1 c1 c1 (by omega))).symm | exact (bI_f (vin_f3 c1 (by omega))).symm) dX2_hasMaster_17
  ·
    refine lv_iload_n hx hb dX2_hasMaster_4 rfl (lv_at hl 1 rfl) ?_
    refine lv_aload_n hx hb dX2_hasMaster_5 rfl (lv_at hl 0 rfl) ?_
    refine g_get (v := .int (nI M)) hx hb hts ixX2_hasMaster_X2 hown hK hP 0 rfl rfl 3 (by decide) lkX2_hasMaster_21 rfl dX2_hasMaster_6 ?_
    refine lv_icmp_ge (tgt := 16) hx hb dX2_hasMaster_9 (by decide) (fun c2 => ?_) (fun c2 => ?_)
    ·
      refine lv_iconst (v := nI 0) hx hb dX2_hasMaster_16 (by decide) ?_
      exact hret _ _ _ (by first | exact (bI_t (vin_t c1 c2 (by omega))).symm | exact (bI_f (vin_f1 c1)).symm | exact (bI_f (vin_f2 c2 (by omega))).symm | exact (bI_t (vin_t1 c1 c2 (by omega))).symm | exact (bI_f (vin_f3 c2 (by omega))).symm) dX2_hasMaster_17
    ·
      refine lv_iconst (v := nI 1) hx hb dX2_hasMaster_12 (by decide) ?_
      refine lv_goto (tgt := 17) hx hb dX2_hasMaster_13 (by decide) ?_
      exact hret _ _ _ (by first | exact (bI_t (vin_t c1 c2 (by omega))).symm | exact (bI_f (vin_f1 c1)).symm | exact (bI_f (vin_f2 c2 (by omega))).symm | exact (bI_t (vin_t1 c1 c2 (by omega))).symm | exact (bI_f (vin_f3 c2 (by omega))).symm) dX2_hasMaster_17

theorem ixX2_hasBoy_X2 : ∀ w ∈ wsX20, w ∈ wsX2_hasBoy := fun _ h => List.mem_cons_of_mem _ (List.mem_append_right _ h)
theorem lkX2_hasBoy_25 : Cond.fieldLink RX2 25 (TX2 4).1 (TX2 4).2.1 (TX2 4).2.2.1 ∈ wsX2_hasBoy := List.mem_of_getElem? (i := 1) rfl
set_option maxHeartbeats 4000000 in
set_option maxRecDepth 100000 in
theorem kX2_hasBoy (l : Launch) (G : Gl) (t : Nat) (ap : Nat) (ak : Nat) (ao : Nat) (M : Nat) (B : Nat) (x : Int32) (hB : B ≤ 4) : Rd l G yX2_hasBoy wsX2_hasBoy ({ frames := 0, cells := 0, slots := 0, locals := 0 } : Room) [.ref t, .int x] [(t, .inr (2, [.ref ap, .ref ak, .ref ao, .int (nI M), .int (nI B)]))] (some (.int (bI (vp_in x B)))) := by
  refine Rd.ofZ (cc := cX2_hasBoy) (maxL := 2) (by decide) rfl (Nat.le_of_ble_eq_true rfl) ?_
  intro p e s m below meth c Q ls hE hP hK hl hret
  obtain ⟨hx, hb, hml, hown, hts⟩ := id hE
  have hl : lv_has ls 2 [(0, .ref t), (1, .int x)] := hl
  refine lv_iload_n hx hb dX2_hasBoy_0 rfl (lv_at hl 1 rfl) ?_
  refine lv_if_lt (tgt := 16) hx hb dX2_hasBoy_1 (by decide) (fun c1 => ?_) (fun c1 => ?_)
  ·
    refine lv_iconst (v := nI 0) hx hb dX2_hasBoy_16 (by decide) ?_
    exact hret _ _ _ (by first | exact (bI_t (vin_t c1 c1 (by omega))).symm | exact (bI_f (vin_f1 c1)).symm | exact (bI_f (vin_f2 c1 (by omega))).symm | exact (bI_t (vin_t1 c1 c1 (by omega))).symm | exact (bI_f (vin_f3 c1 (by omega))).symm) dX2_hasBoy_17
  ·
    refine lv_iload_n hx hb dX2_hasBoy_4 rfl (lv_at hl 1 rfl) ?_
    refine lv_aload_n hx hb dX2_hasBoy_5 rfl (lv_at hl 0 rfl) ?_
    refine g_get (v := .int (nI B)) hx hb hts ixX2_hasBoy_X2 hown hK hP 0 rfl rfl 4 (by decide) lkX2_hasBoy_25 rfl dX2_hasBoy_6 ?_
    refine lv_icmp_ge (tgt := 16) hx hb dX2_hasBoy_9 (by decide) (fun c2 => ?_) (fun c2 => ?_)
    ·
      refine lv_iconst (v := nI 0) hx hb dX2_hasBoy_16 (by decide) ?_
      exact hret _ _ _ (by first | exact (bI_t (vin_t c1 c2 (by omega))).symm | exact (bI_f (vin_f1 c1)).symm | exact (bI_f (vin_f2 c2 (by omega))).symm | exact (bI_t (vin_t1 c1 c2 (by omega))).symm | exact (bI_f (vin_f3 c2 (by omega))).symm) dX2_hasBoy_17
    ·
      refine lv_iconst (v := nI 1) hx hb dX2_hasBoy_12 (by decide) ?_
      refine lv_goto (tgt := 17) hx hb dX2_hasBoy_13 (by decide) ?_
      exact hret _ _ _ (by first | exact (bI_t (vin_t c1 c2 (by omega))).symm | exact (bI_f (vin_f1 c1)).symm | exact (bI_f (vin_f2 c2 (by omega))).symm | exact (bI_t (vin_t1 c1 c2 (by omega))).symm | exact (bI_f (vin_f3 c2 (by omega))).symm) dX2_hasBoy_17

set_option maxHeartbeats 4000000 in
set_option maxRecDepth 100000 in
theorem kX2_hasDebt (l : Launch) (G : Gl) (t : Nat) (ap : Nat) (ak : Nat) (ao : Nat) (M : Nat) (B : Nat) (x : Int32) (y : Int32) (hM : M ≤ 5) : Rd l G yX2_hasDebt wsX2_hasDebt ({ frames := 1, cells := 0, slots := 0, locals := 21 } : Room) [.ref t, .int x, .int y] [(t, .inr (2, [.ref ap, .ref ak, .ref ao, .int (nI M), .int (nI B)]))] (some (.int (bI (hd M x y)))) := by
  refine Rd.ofZ (cc := cX2_hasDebt) (maxL := 3) (by decide) rfl (Nat.le_of_ble_eq_true rfl) ?_
  intro p e s m below meth c Q ls hE hP hK hl hret
  obtain ⟨hx, hb, hml, hown, hts⟩ := id hE
  have hl : lv_has ls 3 [(0, .ref t), (1, .int x), (2, .int y)] := hl
  refine lv_aload_n hx hb dX2_hasDebt_0 rfl (lv_at hl 0 rfl) ?_
  refine lv_iload_n hx hb dX2_hasDebt_1 rfl (lv_at hl 1 rfl) ?_
  refine rdV (As := [.int x]) (rest := []) (ci := 2) (q0 := 0) hE (kX2_hasMaster l G t ap ak ao M B x hM) (cwV 1 hts gX2_hasDebt_X2_hasMaster rfl rfl rfl (by decide +kernel) ⟨Nat.le_of_ble_eq_true rfl, Nat.le_of_ble_eq_true rfl⟩) hP hK [0] rfl rfl rfl rfl hl.1 rfl (Nat.le_of_ble_eq_true rfl) dX2_hasDebt_2 ⟨Nat.zero_le _, Nat.zero_le _⟩ ?_
  refine W.eq (g2 := F0 m 5 ls [.int (bI (vp_in x M))]) rfl ?_
  refine bz_eq (tgt := 25) hx hb dX2_hasDebt_5 (by decide) (fun c1 => ?_) (fun c1 => ?_)
  ·
    refine lv_iconst (v := nI 0) hx hb dX2_hasDebt_25 (by decide) ?_
    exact hret _ _ _ ((bI_f (fun h => by first | exact c1 h.1 | exact c1 h.2.1 | exact h.2.2 c1)).symm) dX2_hasDebt_26
  ·
    refine lv_aload_n hx hb dX2_hasDebt_8 rfl (lv_at hl 0 rfl) ?_
    refine lv_iload_n hx hb dX2_hasDebt_9 rfl (lv_at hl 2 rfl) ?_
    refine rdV (As := [.int y]) (rest := []) (ci := 2) (q0 := 0) hE (kX2_hasMaster l G t ap ak ao M B y hM) (cwV 1 hts gX2_hasDebt_X2_hasMaster rfl rfl rfl (by decide +kernel) ⟨Nat.le_of_ble_eq_true rfl, Nat.le_of_ble_eq_true rfl⟩) hP hK [0] rfl rfl rfl rfl hl.1 rfl (Nat.le_of_ble_eq_true rfl) dX2_hasDebt_10 ⟨Nat.zero_le _, Nat.zero_le _⟩ ?_
    refine W.eq (g2 := F0 m 13 ls [.int (bI (vp_in y M))]) rfl ?_
    refine bz_eq (tgt := 25) hx hb dX2_hasDebt_13 (by decide) (fun c2 => ?_) (fun c2 => ?_)
    ·
      refine lv_iconst (v := nI 0) hx hb dX2_hasDebt_25 (by decide) ?_
      exact hret _ _ _ ((bI_f (fun h => by first | exact c1 h.1 | exact c2 h.2.1 | exact h.2.2 c2)).symm) dX2_hasDebt_26
    ·
      refine lv_iload_n hx hb dX2_hasDebt_16 rfl (lv_at hl 1 rfl) ?_
      refine lv_iload_n hx hb dX2_hasDebt_17 rfl (lv_at hl 2 rfl) ?_
      refine lv_icmp_eq (tgt := 25) hx hb dX2_hasDebt_18 (by decide) (fun c3 => ?_) (fun c3 => ?_)
      ·
        refine lv_iconst (v := nI 0) hx hb dX2_hasDebt_25 (by decide) ?_
        exact hret _ _ _ ((bI_f (fun h => by first | exact c1 h.1 | exact c2 h.2.1 | exact h.2.2 c3)).symm) dX2_hasDebt_26
      ·
        refine lv_iconst (v := nI 1) hx hb dX2_hasDebt_21 (by decide) ?_
        refine lv_goto (tgt := 26) hx hb dX2_hasDebt_22 (by decide) ?_
        exact hret _ _ _ ((bI_t ⟨c1, c2, c3⟩).symm) dX2_hasDebt_26

theorem ixX2_allMasters_X2 : ∀ w ∈ wsX20, w ∈ wsX2_allMasters := fun _ h => List.mem_cons_of_mem _ (List.mem_append_right _ h)
theorem lkX2_allMasters_21 : Cond.fieldLink RX2 21 (TX2 3).1 (TX2 3).2.1 (TX2 3).2.2.1 ∈ wsX2_allMasters := List.mem_of_getElem? (i := 1) rfl
set_option maxHeartbeats 4000000 in
set_option maxRecDepth 100000 in
theorem kX2_allMasters (l : Launch) (G : Gl) (t : Nat) (ap : Nat) (ak : Nat) (ao : Nat) (M : Nat) (B : Nat) : Rd l G yX2_allMasters wsX2_allMasters ({ frames := 0, cells := 0, slots := 0, locals := 0 } : Room) [.ref t] [(t, .inr (2, [.ref ap, .ref ak, .ref ao, .int (nI M), .int (nI B)]))] (some (.int (nI 1 <<< (nI M &&& 31) - nI 1))) := by
  refine Rd.ofI (cc := cX2_allMasters) (maxL := 1) (by decide) rfl (Nat.le_of_ble_eq_true rfl) ?_
  intro p e s m below meth c Q ls hE hP hK hl hret
  obtain ⟨hx, hb, hml, hown, hts⟩ := id hE
  have hl : lv_has ls 1 [(0, .ref t)] := hl
  refine lv_iconst (v := nI 1) hx hb dX2_allMasters_0 (by decide) ?_
  refine lv_aload_n hx hb dX2_allMasters_1 rfl (lv_at hl 0 rfl) ?_
  refine g_get (v := .int (nI M)) hx hb hts ixX2_allMasters_X2 hown hK hP 0 rfl rfl 3 (by decide) lkX2_allMasters_21 rfl dX2_allMasters_2 ?_
  refine lv_ishl hx hb dX2_allMasters_5 ?_
  refine lv_iconst (v := nI 1) hx hb dX2_allMasters_6 (by decide) ?_
  refine lv_isub hx hb dX2_allMasters_7 ?_
  exact hret _ _ _ (by first | with_reducible rfl | (simp only []; done) | contradiction) dX2_allMasters_8

theorem ixX2_debt_X2 : ∀ w ∈ wsX20, w ∈ wsX2_debt := fun _ h => List.mem_cons_of_mem _ (List.mem_append_right _ h)
theorem lkX2_debt_9 : Cond.fieldLink RX2 9 (TX2 0).1 (TX2 0).2.1 (TX2 0).2.2.1 ∈ wsX2_debt := List.mem_of_getElem? (i := 1) rfl
set_option maxHeartbeats 4000000 in
set_option maxRecDepth 100000 in
theorem kX2_debt (l : Launch) (G : Gl) (t : Nat) (ap : Nat) (ak : Nat) (ao : Nat) (M : Nat) (B : Nat) (P : Nat → Int32) (a : Nat) (b : Nat) (hab : a * 5 + b < 25) : Rd l G yX2_debt wsX2_debt ({ frames := 0, cells := 0, slots := 0, locals := 0 } : Room) [.ref t, .int (nI a), .int (nI b)] [(t, .inr (2, [.ref ap, .ref ak, .ref ao, .int (nI M), .int (nI B)])), (ap, aI G 25 P)] (some (.int (P (a * 5 + b)))) := by
  refine Rd.ofI (cc := cX2_debt) (maxL := 3) (by decide) rfl (Nat.le_of_ble_eq_true rfl) ?_
  intro p e s m below meth c Q ls hE hP hK hl hret
  obtain ⟨hx, hb, hml, hown, hts⟩ := id hE
  have hl : lv_has ls 3 [(0, .ref t), (1, .int (nI a)), (2, .int (nI b))] := hl
  refine lv_aload_n hx hb dX2_debt_0 rfl (lv_at hl 0 rfl) ?_
  refine g_get (v := .ref ap) hx hb hts ixX2_debt_X2 hown hK hP 0 rfl rfl 0 (by decide) lkX2_debt_9 rfl dX2_debt_1 ?_
  refine lv_iload_n hx hb dX2_debt_4 rfl (lv_at hl 1 rfl) ?_
  refine lv_iconst (v := nI 5) hx hb dX2_debt_5 (by decide) ?_
  refine lv_imul hx hb dX2_debt_6 ?_
  refine lv_tope (show (nI a) * (nI 5) = nI (a * 5) from pk_mul _ _) ?_
  refine lv_iload_n hx hb dX2_debt_7 rfl (lv_at hl 2 rfl) ?_
  refine lv_iadd hx hb dX2_debt_8 ?_
  refine lv_tope (show (nI (a * 5)) + (nI b) = nI ((a * 5) + b) from nI_add _ _) ?_
  refine n_ald hx hb hK hP 1 rfl (k := (a * 5) + b) (by omega) (by decide) dX2_debt_9 ?_
  exact hret _ _ _ (by first | with_reducible rfl | (simp only []; done) | contradiction) dX2_debt_10

theorem ixX2_setDebt_X2 : ∀ w ∈ wsX20, w ∈ wsX2_setDebt := fun _ h => List.mem_cons_of_mem _ (List.mem_append_right _ h)
theorem lkX2_setDebt_9 : Cond.fieldLink RX2 9 (TX2 0).1 (TX2 0).2.1 (TX2 0).2.2.1 ∈ wsX2_setDebt := List.mem_of_getElem? (i := 1) rfl
set_option maxHeartbeats 4000000 in
set_option maxRecDepth 100000 in
theorem kX2_setDebt (l : Launch) (G : Gl) (t : Nat) (ap : Nat) (ak : Nat) (ao : Nat) (tM : Int32) (tB : Int32) (P : Nat → Int32) (a : Nat) (b : Nat) (v : Int32) (hab : a * 5 + b < 25) : Wt l G yX2_setDebt wsX2_setDebt ({ frames := 0, cells := 0, slots := 0, locals := 0 } : Room) [.ref t, .int (nI a), .int (nI b), .int v] [(t, .inr (2, [.ref ap, .ref ak, .ref ao, .int tM, .int tB])), (ap, aI G 25 P)] [(t, .inr (2, [.ref ap, .ref ak, .ref ao, .int tM, .int tB])), (ap, aI G 25 (upd P (a * 5 + b) v))] none := by
  refine Wt.ofV (cc := cX2_setDebt) (maxL := 4) (by decide) rfl (Nat.le_of_ble_eq_true rfl) ?_
  intro p e s m below meth c Q A ls hE hin hP hK hD hS hl hret
  obtain ⟨hx, hb, hml, hown, hts⟩ := id hE
  have hl : lv_has ls 4 [(0, .ref t), (1, .int (nI a)), (2, .int (nI b)), (3, .int v)] := hl
  refine lv_aload_n hx hb dX2_setDebt_0 rfl (lv_at hl 0 rfl) ?_
  refine g_get (v := .ref ap) hx hb hts ixX2_setDebt_X2 hown hK hP 0 rfl rfl 0 (by decide) lkX2_setDebt_9 rfl dX2_setDebt_1 ?_
  refine lv_iload_n hx hb dX2_setDebt_4 rfl (lv_at hl 1 rfl) ?_
  refine lv_iconst (v := nI 5) hx hb dX2_setDebt_5 (by decide) ?_
  refine lv_imul hx hb dX2_setDebt_6 ?_
  refine lv_tope (show (nI a) * (nI 5) = nI (a * 5) from pk_mul _ _) ?_
  refine lv_iload_n hx hb dX2_setDebt_7 rfl (lv_at hl 2 rfl) ?_
  refine lv_iadd hx hb dX2_setDebt_8 ?_
  refine lv_tope (show (nI (a * 5)) + (nI b) = nI ((a * 5) + b) from nI_add _ _) ?_
  refine lv_iload_n hx hb dX2_setDebt_9 rfl (lv_at hl 3 rfl) ?_
  refine n_ast hx hb hK hP hD hS 1 rfl (k := (a * 5) + b) (by omega) (by decide) dX2_setDebt_10 (fun H locs hP hD hS => ?_)
  have hP : va_P G.1 vwCl [(t, .inr (2, [.ref ap, .ref ak, .ref ao, .int tM, .int tB])), (ap, aI G 25 (upd P ((a * 5) + b) v))] H := hP
  have hD : va_D A [(t, .inr (2, [.ref ap, .ref ak, .ref ao, .int tM, .int tB])), (ap, aI G 25 (upd P ((a * 5) + b) v))] := hD
  exact hret _ _ _ _ (by first | with_reducible exact hP | (simp only []; with_reducible exact hP) | contradiction | (simp only []; exact hP) | exact hP) hS dX2_setDebt_11

theorem ixX2_nextOf_X2 : ∀ w ∈ wsX20, w ∈ wsX2_nextOf := fun _ h => List.mem_cons_of_mem _ (List.mem_append_right _ h)
theorem lkX2_nextOf_21 : Cond.fieldLink RX2 21 (TX2 3).1 (TX2 3).2.1 (TX2 3).2.2.1 ∈ wsX2_nextOf := List.mem_of_getElem? (i := 1) rfl
set_option maxHeartbeats 4000000 in
set_option maxRecDepth 100000 in
theorem kX2_nextOf (l : Launch) (G : Gl) (t : Nat) (ap : Nat) (ak : Nat) (ao : Nat) (M : Nat) (B : Nat) (P : Nat → Int32) (m0 : Nat) (hM : M ≤ 5) (hm : m0 < M) (hz : P (m0 * 5 + m0) = nI 0) : Rd l G yX2_nextOf wsX2_nextOf ({ frames := 1, cells := 0, slots := 0, locals := 22 } : Room) [.ref t, .int (nI m0)] [(t, .inr (2, [.ref ap, .ref ak, .ref ao, .int (nI M), .int (nI B)])), (ap, aI G 25 P)] (some (.int (nI (nxt P M m0)))) := by
  refine Rd.ofI (cc := cX2_nextOf) (maxL := 5) (by decide) rfl (Nat.le_of_ble_eq_true rfl) ?_
  intro p e s m below meth c Q ls hE hP hK hl hret
  obtain ⟨hx, hb, hml, hown, hts⟩ := id hE
  have hl : lv_has ls 5 [(0, .ref t), (1, .int (nI m0))] := hl
  refine lv_iconst (v := nI 0) hx hb dX2_nextOf_0 (by decide) ?_
  refine lv_istore_n (lv' := [(2, .int (nI 0)), (0, .ref t), (1, .int (nI m0))]) hx hb dX2_nextOf_1 rfl hl (by decide) rfl (fun ls hl => ?_)
  refine lv_iload_n hx hb dX2_nextOf_2 rfl (lv_at hl 2 rfl) ?_
  refine lv_istore_n (lv' := [(3, .int (nI m0)), (2, .int (nI 0)), (0, .ref t), (1, .int (nI m0))]) hx hb dX2_nextOf_3 rfl hl (by decide) rfl (fun ls hl => ?_)
  refine lv_iconst (v := nI 0) hx hb dX2_nextOf_4 (by decide) ?_
  refine lv_istore (lv' := [(4, .int (nI 0)), (3, .int (nI m0)), (2, .int (nI 0)), (0, .ref t), (1, .int (nI m0))]) hx hb dX2_nextOf_5 hl (by decide) rfl (fun ls hl => ?_)
  have loop1 : ∀ (d k : Nat) (ls : Array Slot), M < k + d → k ≤ M → lv_has ls 5 [(4, .int (nI k)), (3, .int (nI (nx P m0 k))), (2, .int (P (m0 * 5 + nx P m0 k))), (0, .ref t), (1, .int (nI m0))] → W p l e ({ frames := 1, cells := 0, slots := 0, locals := 22 } : Room) s m ([.ref t, .int (nI m0)] : List Value).toArray below meth c s.heap [] 0 0 Q (F0 m 7 ls []) := by
    intro d
    induction d with
    | zero =>
      intro k ls h1 h2
      omega
    | succ d ih1 =>
      intro k ls hdk hbk hl
      refine lv_iload hx hb dX2_nextOf_7 (lv_at hl 0 rfl) ?_
      refine lv_aload_n hx hb dX2_nextOf_9 rfl (lv_at hl 3 rfl) ?_
      refine g_get (v := .int (nI M)) hx hb hts ixX2_nextOf_X2 hown hK hP 0 rfl rfl 3 (by decide) lkX2_nextOf_21 rfl dX2_nextOf_10 ?_
      refine ic_ge (tgt := 44) hx hb (by omega) (by omega) dX2_nextOf_13 (by decide) (fun c1 => ?_) (fun c1 => ?_)
      ·
        obtain rfl : M = k := by omega
        refine lv_iload_n hx hb dX2_nextOf_44 rfl (lv_at hl 1 rfl) ?_
        exact hret _ _ _ (rfl) dX2_nextOf_45
      ·
        refine lv_aload_n hx hb dX2_nextOf_16 rfl (lv_at hl 3 rfl) ?_
        refine lv_iload_n hx hb dX2_nextOf_17 rfl (lv_at hl 4 rfl) ?_
        refine lv_iload hx hb dX2_nextOf_18 (lv_at hl 0 rfl) ?_
        refine rdV (As := [.int (nI m0), .int (nI k)]) (rest := []) (ci := 2) (q0 := 0) hE (kX2_debt l G t ap ak ao M B P m0 k (by first | omega | assumption)) (cwV 2 hts gX2_nextOf_X2_debt rfl rfl rfl (by decide +kernel) ⟨Nat.le_of_ble_eq_true rfl, Nat.le_of_ble_eq_true rfl⟩) hP hK [0, 1] rfl rfl rfl rfl hl.1 rfl (Nat.le_of_ble_eq_true rfl) dX2_nextOf_20 ⟨Nat.zero_le _, Nat.zero_le _⟩ ?_
        refine W.eq (g2 := F0 m 23 ls [.int (P (m0 * 5 + k))]) rfl ?_
        refine lv_iload_n hx hb dX2_nextOf_23 rfl (lv_at hl 2 rfl) ?_
        refine lv_icmp_le (tgt := 38) hx hb dX2_nextOf_24 (by decide) (fun c2 => ?_) (fun c2 => ?_)
        ·
          refine lv_iinc (v := nI (k + 1)) (lv' := [(4, .int (nI (k + 1))), (3, .int (nI (nx P m0 k))), (2, .int (P (m0 * 5 + nx P m0 k))), (0, .ref t), (1, .int (nI m0))]) hx hb dX2_nextOf_38 hl (k := 0) rfl (show nI k + Int32.ofInt 1 = nI (k + 1) from nI_add _ 1) (by decide) rfl (fun ls hl => ?_)
          refine lv_goto (tgt := 7) hx hb dX2_nextOf_41 (by decide) ?_
          have hl3 : lv_has ls 5 [(4, .int (nI (k + 1))), (3, .int (nI (nx P m0 (k + 1)))), (2, .int (P (m0 * 5 + nx P m0 (k + 1)))), (0, .ref t), (1, .int (nI m0))] := by
            rw [show (nI (nx P m0 (k + 1))) = (nI (nx P m0 k)) from by first | rfl | simp only [nx, iF_t c1, iF_t c2, iF_f (i32_le c2)]]
            rw [show (P (m0 * 5 + nx P m0 (k + 1))) = (P (m0 * 5 + nx P m0 k)) from by first | rfl | simp only [nx, iF_t c1, iF_t c2, iF_f (i32_le c2)]]
            exact (lv_sub hl [0, 1, 2, 3, 4] rfl)
          exact ih1 (k + 1) ls (by omega) (by omega) hl3
        ·
          refine lv_aload_n hx hb dX2_nextOf_27 rfl (lv_at hl 3 rfl) ?_
          refine lv_iload_n hx hb dX2_nextOf_28 rfl (lv_at hl 4 rfl) ?_
          refine lv_iload hx hb dX2_nextOf_29 (lv_at hl 0 rfl) ?_
          refine rdV (As := [.int (nI m0), .int (nI k)]) (rest := []) (ci := 2) (q0 := 0) hE (kX2_debt l G t ap ak ao M B P m0 k (by first | omega | assumption)) (cwV 2 hts gX2_nextOf_X2_debt rfl rfl rfl (by decide +kernel) ⟨Nat.le_of_ble_eq_true rfl, Nat.le_of_ble_eq_true rfl⟩) hP hK [0, 1] rfl rfl rfl rfl hl.1 rfl (Nat.le_of_ble_eq_true rfl) dX2_nextOf_31 ⟨Nat.zero_le _, Nat.zero_le _⟩ ?_
          refine W.eq (g2 := F0 m 34 ls [.int (P (m0 * 5 + k))]) rfl ?_
          refine lv_istore_n (lv' := [(2, .int (P (m0 * 5 + k))), (4, .int (nI k)), (3, .int (nI (nx P m0 k))), (0, .ref t), (1, .int (nI m0))]) hx hb dX2_nextOf_34 rfl hl (by decide) rfl (fun ls hl => ?_)
          refine lv_iload hx hb dX2_nextOf_35 (lv_at hl 1 rfl) ?_
          refine lv_istore_n (lv' := [(3, .int (nI k)), (2, .int (P (m0 * 5 + k))), (4, .int (nI k)), (0, .ref t), (1, .int (nI m0))]) hx hb dX2_nextOf_37 rfl hl (by decide) rfl (fun ls hl => ?_)
          refine lv_iinc (v := nI (k + 1)) (lv' := [(4, .int (nI (k + 1))), (3, .int (nI k)), (2, .int (P (m0 * 5 + k))), (0, .ref t), (1, .int (nI m0))]) hx hb dX2_nextOf_38 hl (k := 2) rfl (show nI k + Int32.ofInt 1 = nI (k + 1) from nI_add _ 1) (by decide) rfl (fun ls hl => ?_)
          refine lv_goto (tgt := 7) hx hb dX2_nextOf_41 (by decide) ?_
          have hl4 : lv_has ls 5 [(4, .int (nI (k + 1))), (3, .int (nI (nx P m0 (k + 1)))), (2, .int (P (m0 * 5 + nx P m0 (k + 1)))), (0, .ref t), (1, .int (nI m0))] := by
            rw [show (nI (nx P m0 (k + 1))) = (nI k) from by first | rfl | simp only [nx, iF_t c1, iF_f c2, iF_t (i32_nle c2)]]
            rw [show (P (m0 * 5 + nx P m0 (k + 1))) = (P (m0 * 5 + k)) from by first | rfl | simp only [nx, iF_t c1, iF_f c2, iF_t (i32_nle c2)]]
            exact (lv_sub hl [0, 1, 2, 3, 4] rfl)
          exact ih1 (k + 1) ls (by omega) (by omega) hl4
  have hl5 : lv_has ls 5 [(4, .int (nI 0)), (3, .int (nI (nx P m0 0))), (2, .int (P (m0 * 5 + nx P m0 0))), (0, .ref t), (1, .int (nI m0))] := by
    rw [show (nI (nx P m0 0)) = (nI m0) from by first | rfl | simp only [nx]]
    rw [show (P (m0 * 5 + nx P m0 0)) = (nI 0) from hz]
    exact (lv_sub hl [0, 1, 2, 3, 4] rfl)
  exact loop1 (M + 1) 0 ls (by omega) (by omega) hl5

set_option maxHeartbeats 4000000 in
set_option maxRecDepth 100000 in
theorem kX2_stepsFrom (l : Launch) (G : Gl) (t : Nat) (ap : Nat) (ak : Nat) (ao : Nat) (M : Nat) (B : Nat) (P : Nat → Int32) (m0 : Nat) (n : Nat) (hM : M ≤ 5) (hm : m0 < M) (hn : n ≤ 60) (hz : ∀ j, j < M → P (j * 5 + j) = nI 0) : Rd l G yX2_stepsFrom wsX2_stepsFrom ({ frames := 2, cells := 0, slots := 0, locals := 46 } : Room) [.ref t, .int (nI m0), .int (nI n)] [(t, .inr (2, [.ref ap, .ref ak, .ref ao, .int (nI M), .int (nI B)])), (ap, aI G 25 P)] (some (.int (nI (wh P M m0 n)))) := by
  refine Rd.ofI (cc := cX2_stepsFrom) (maxL := 5) (by decide) rfl (Nat.le_of_ble_eq_true rfl) ?_
  intro p e s m below meth c Q ls hE hP hK hl hret
  obtain ⟨hx, hb, hml, hown, hts⟩ := id hE
  have hl : lv_has ls 5 [(0, .ref t), (1, .int (nI m0)), (2, .int (nI n))] := hl
  refine lv_iload_n hx hb dX2_stepsFrom_0 rfl (lv_at hl 1 rfl) ?_
  refine lv_istore_n (lv' := [(3, .int (nI m0)), (0, .ref t), (1, .int (nI m0)), (2, .int (nI n))]) hx hb dX2_stepsFrom_1 rfl hl (by decide) rfl (fun ls hl => ?_)
  refine lv_iconst (v := nI 0) hx hb dX2_stepsFrom_2 (by decide) ?_
  refine lv_istore (lv' := [(4, .int (nI 0)), (3, .int (nI m0)), (0, .ref t), (1, .int (nI m0)), (2, .int (nI n))]) hx hb dX2_stepsFrom_3 hl (by decide) rfl (fun ls hl => ?_)
  have loop1 : ∀ (d k : Nat) (ls : Array Slot), n < k + d → k ≤ n → lv_has ls 5 [(4, .int (nI k)), (3, .int (nI (wh P M m0 k))), (0, .ref t), (1, .int (nI m0)), (2, .int (nI n))] → W p l e ({ frames := 2, cells := 0, slots := 0, locals := 46 } : Room) s m ([.ref t, .int (nI m0), .int (nI n)] : List Value).toArray below meth c s.heap [] 0 0 Q (F0 m 5 ls []) := by
    intro d
    induction d with
    | zero =>
      intro k ls h1 h2
      omega
    | succ d ih1 =>
      intro k ls hdk hbk hl
      refine lv_iload hx hb dX2_stepsFrom_5 (lv_at hl 0 rfl) ?_
      refine lv_iload_n hx hb dX2_stepsFrom_7 rfl (lv_at hl 4 rfl) ?_
      refine ic_ge (tgt := 23) hx hb (by omega) (by omega) dX2_stepsFrom_8 (by decide) (fun c1 => ?_) (fun c1 => ?_)
      ·
        obtain rfl : n = k := by omega
        refine lv_iload_n hx hb dX2_stepsFrom_23 rfl (lv_at hl 1 rfl) ?_
        exact hret _ _ _ (by first | with_reducible rfl | (simp only [iF_f (Nat.not_lt.mpr c1)]; done) | contradiction) dX2_stepsFrom_24
      ·
        refine lv_aload_n hx hb dX2_stepsFrom_11 rfl (lv_at hl 2 rfl) ?_
        refine lv_iload_n hx hb dX2_stepsFrom_12 rfl (lv_at hl 1 rfl) ?_
        refine rdV (As := [.int (nI (wh P M m0 k))]) (rest := []) (ci := 2) (q0 := 0) hE (kX2_nextOf l G t ap ak ao M B P (wh P M m0 k) hM (wh_lt hm k) (hz _ (wh_lt hm k))) (cwV 1 hts gX2_stepsFrom_X2_nextOf rfl rfl rfl (by decide +kernel) ⟨Nat.le_of_ble_eq_true rfl, Nat.le_of_ble_eq_true rfl⟩) hP hK [0, 1] rfl rfl rfl rfl hl.1 rfl (Nat.le_of_ble_eq_true rfl) dX2_stepsFrom_13 ⟨Nat.zero_le _, Nat.zero_le _⟩ ?_
        refine W.eq (g2 := F0 m 16 ls [.int (nI (nxt P M (wh P M m0 k)))]) rfl ?_
        refine lv_istore_n (lv' := [(3, .int (nI (nxt P M (wh P M m0 k)))), (4, .int (nI k)), (0, .ref t), (1, .int (nI m0)), (2, .int (nI n))]) hx hb dX2_stepsFrom_16 rfl hl (by decide) rfl (fun ls hl => ?_)
        refine lv_iinc (v := nI (k + 1)) (lv' := [(4, .int (nI (k + 1))), (3, .int (nI (nxt P M (wh P M m0 k)))), (0, .ref t), (1, .int (nI m0)), (2, .int (nI n))]) hx hb dX2_stepsFrom_17 hl (k := 1) rfl (show nI k + Int32.ofInt 1 = nI (k + 1) from nI_add _ 1) (by decide) rfl (fun ls hl => ?_)
        refine lv_goto (tgt := 5) hx hb dX2_stepsFrom_20 (by decide) ?_
        have hl2 : lv_has ls 5 [(4, .int (nI (k + 1))), (3, .int (nI (wh P M m0 (k + 1)))), (0, .ref t), (1, .int (nI m0)), (2, .int (nI n))] := by
          rw [show (nI (wh P M m0 (k + 1))) = (nI (nxt P M (wh P M m0 k))) from by first | rfl | simp only [wh, iF_t c1]]
          exact (lv_sub hl [0, 1, 2, 3, 4] rfl)
        exact ih1 (k + 1) ls (by omega) (by omega) hl2
  have hl3 : lv_has ls 5 [(4, .int (nI 0)), (3, .int (nI (wh P M m0 0))), (0, .ref t), (1, .int (nI m0)), (2, .int (nI n))] := by
    rw [show (nI (wh P M m0 0)) = (nI m0) from by first | rfl | simp only [wh]]
    exact (lv_sub hl [0, 1, 2, 3, 4] rfl)
  exact loop1 (n + 1) 0 ls (by omega) (by omega) hl3

theorem ixX2_metFrom_X2 : ∀ w ∈ wsX20, w ∈ wsX2_metFrom := fun _ h => List.mem_cons_of_mem _ (List.mem_append_right _ h)
theorem lkX2_metFrom_21 : Cond.fieldLink RX2 21 (TX2 3).1 (TX2 3).2.1 (TX2 3).2.2.1 ∈ wsX2_metFrom := List.mem_of_getElem? (i := 1) rfl
set_option maxHeartbeats 4000000 in
set_option maxRecDepth 100000 in
theorem kX2_metFrom (l : Launch) (G : Gl) (t : Nat) (ap : Nat) (ak : Nat) (ao : Nat) (M : Nat) (B : Nat) (P : Nat → Int32) (m0 : Nat) (hM : M ≤ 5) (hm : m0 < M) (hz : ∀ j, j < M → P (j * 5 + j) = nI 0) : Rd l G yX2_metFrom wsX2_metFrom ({ frames := 2, cells := 0, slots := 0, locals := 46 } : Room) [.ref t, .int (nI m0)] [(t, .inr (2, [.ref ap, .ref ak, .ref ao, .int (nI M), .int (nI B)])), (ap, aI G 25 P)] (some (.int (mt P M m0 M))) := by
  refine Rd.ofI (cc := cX2_metFrom) (maxL := 5) (by decide) rfl (Nat.le_of_ble_eq_true rfl) ?_
  intro p e s m below meth c Q ls hE hP hK hl hret
  obtain ⟨hx, hb, hml, hown, hts⟩ := id hE
  have hl : lv_has ls 5 [(0, .ref t), (1, .int (nI m0))] := hl
  refine lv_iconst (v := nI 0) hx hb dX2_metFrom_0 (by decide) ?_
  refine lv_istore_n (lv' := [(2, .int (nI 0)), (0, .ref t), (1, .int (nI m0))]) hx hb dX2_metFrom_1 rfl hl (by decide) rfl (fun ls hl => ?_)
  refine lv_iload_n hx hb dX2_metFrom_2 rfl (lv_at hl 2 rfl) ?_
  refine lv_istore_n (lv' := [(3, .int (nI m0)), (2, .int (nI 0)), (0, .ref t), (1, .int (nI m0))]) hx hb dX2_metFrom_3 rfl hl (by decide) rfl (fun ls hl => ?_)
  refine lv_iconst (v := nI 0) hx hb dX2_metFrom_4 (by decide) ?_
  refine lv_istore (lv' := [(4, .int (nI 0)), (3, .int (nI m0)), (2, .int (nI 0)), (0, .ref t), (1, .int (nI m0))]) hx hb dX2_metFrom_5 hl (by decide) rfl (fun ls hl => ?_)
  have loop1 : ∀ (d k : Nat) (ls : Array Slot), M < k + d → k ≤ M → lv_has ls 5 [(4, .int (nI k)), (3, .int (nI (wh P M m0 k))), (2, .int (mt P M m0 k)), (0, .ref t), (1, .int (nI m0))] → W p l e ({ frames := 2, cells := 0, slots := 0, locals := 46 } : Room) s m ([.ref t, .int (nI m0)] : List Value).toArray below meth c s.heap [] 0 0 Q (F0 m 7 ls []) := by
    intro d
    induction d with
    | zero =>
      intro k ls h1 h2
      omega
    | succ d ih1 =>
      intro k ls hdk hbk hl
      refine lv_iload hx hb dX2_metFrom_7 (lv_at hl 0 rfl) ?_
      refine lv_aload_n hx hb dX2_metFrom_9 rfl (lv_at hl 3 rfl) ?_
      refine g_get (v := .int (nI M)) hx hb hts ixX2_metFrom_X2 hown hK hP 0 rfl rfl 3 (by decide) lkX2_metFrom_21 rfl dX2_metFrom_10 ?_
      refine ic_ge (tgt := 34) hx hb (by omega) (by omega) dX2_metFrom_13 (by decide) (fun c1 => ?_) (fun c1 => ?_)
      ·
        obtain rfl : M = k := by omega
        refine lv_iload_n hx hb dX2_metFrom_34 rfl (lv_at hl 2 rfl) ?_
        exact hret _ _ _ (by first | with_reducible rfl | (simp only [iF_f (Nat.not_lt.mpr c1)]; done) | contradiction) dX2_metFrom_35
      ·
        refine lv_iload_n hx hb dX2_metFrom_16 rfl (lv_at hl 2 rfl) ?_
        refine lv_iconst (v := nI 1) hx hb dX2_metFrom_17 (by decide) ?_
        refine lv_iload_n hx hb dX2_metFrom_18 rfl (lv_at hl 1 rfl) ?_
        refine lv_ishl hx hb dX2_metFrom_19 ?_
        refine lv_ior hx hb dX2_metFrom_20 ?_
        refine lv_istore_n (lv' := [(2, .int ((mt P M m0 k) ||| ((nI 1) <<< (nI (wh P M m0 k) &&& 31)))), (4, .int (nI k)), (3, .int (nI (wh P M m0 k))), (0, .ref t), (1, .int (nI m0))]) hx hb dX2_metFrom_21 rfl hl (by decide) rfl (fun ls hl => ?_)
        refine lv_aload_n hx hb dX2_metFrom_22 rfl (lv_at hl 3 rfl) ?_
        refine lv_iload_n hx hb dX2_metFrom_23 rfl (lv_at hl 2 rfl) ?_
        refine rdV (As := [.int (nI (wh P M m0 k))]) (rest := []) (ci := 2) (q0 := 0) hE (kX2_nextOf l G t ap ak ao M B P (wh P M m0 k) hM (wh_lt hm k) (hz _ (wh_lt hm k))) (cwV 1 hts gX2_metFrom_X2_nextOf rfl rfl rfl (by decide +kernel) ⟨Nat.le_of_ble_eq_true rfl, Nat.le_of_ble_eq_true rfl⟩) hP hK [0, 1] rfl rfl rfl rfl hl.1 rfl (Nat.le_of_ble_eq_true rfl) dX2_metFrom_24 ⟨Nat.zero_le _, Nat.zero_le _⟩ ?_
        refine W.eq (g2 := F0 m 27 ls [.int (nI (nxt P M (wh P M m0 k)))]) rfl ?_
        refine lv_istore_n (lv' := [(3, .int (nI (nxt P M (wh P M m0 k)))), (2, .int ((mt P M m0 k) ||| ((nI 1) <<< (nI (wh P M m0 k) &&& 31)))), (4, .int (nI k)), (0, .ref t), (1, .int (nI m0))]) hx hb dX2_metFrom_27 rfl hl (by decide) rfl (fun ls hl => ?_)
        refine lv_iinc (v := nI (k + 1)) (lv' := [(4, .int (nI (k + 1))), (3, .int (nI (nxt P M (wh P M m0 k)))), (2, .int ((mt P M m0 k) ||| ((nI 1) <<< (nI (wh P M m0 k) &&& 31)))), (0, .ref t), (1, .int (nI m0))]) hx hb dX2_metFrom_28 hl (k := 2) rfl (show nI k + Int32.ofInt 1 = nI (k + 1) from nI_add _ 1) (by decide) rfl (fun ls hl => ?_)
        refine lv_goto (tgt := 7) hx hb dX2_metFrom_31 (by decide) ?_
        have hl2 : lv_has ls 5 [(4, .int (nI (k + 1))), (3, .int (nI (wh P M m0 (k + 1)))), (2, .int (mt P M m0 (k + 1))), (0, .ref t), (1, .int (nI m0))] := by
          rw [show (nI (wh P M m0 (k + 1))) = (nI (nxt P M (wh P M m0 k))) from by first | rfl | simp only [mt, wh, iF_t c1]]
          rw [show (mt P M m0 (k + 1)) = ((mt P M m0 k) ||| ((nI 1) <<< (nI (wh P M m0 k) &&& 31))) from by first | rfl | simp only [mt, wh, iF_t c1]]
          exact (lv_sub hl [0, 1, 2, 3, 4] rfl)
        exact ih1 (k + 1) ls (by omega) (by omega) hl2
  have hl3 : lv_has ls 5 [(4, .int (nI 0)), (3, .int (nI (wh P M m0 0))), (2, .int (mt P M m0 0)), (0, .ref t), (1, .int (nI m0))] := by
    rw [show (nI (wh P M m0 0)) = (nI m0) from by first | rfl | simp only [mt, wh]]
    rw [show (mt P M m0 0) = (nI 0) from by first | rfl | simp only [mt, wh]]
    exact (lv_sub hl [0, 1, 2, 3, 4] rfl)
  exact loop1 (M + 1) 0 ls (by omega) (by omega) hl3

theorem ixX2_masterBehind_X2 : ∀ w ∈ wsX20, w ∈ wsX2_masterBehind := fun _ h => List.mem_cons_of_mem _ (List.mem_append_right _ h)
theorem lkX2_masterBehind_18 : Cond.fieldLink RX2 18 (TX2 2).1 (TX2 2).2.1 (TX2 2).2.2.1 ∈ wsX2_masterBehind := List.mem_of_getElem? (i := 1) rfl
set_option maxHeartbeats 4000000 in
set_option maxRecDepth 100000 in
theorem kX2_masterBehind (l : Launch) (G : Gl) (t : Nat) (ap : Nat) (ak : Nat) (ao : Nat) (M : Nat) (B : Nat) (P : Nat → Int32) (U : Nat → Int32) (b : Nat) (n : Nat) (hM : M ≤ 5) (hb4 : b < 4) (hu : vp_in (U b) M) (hn : n ≤ 60) (hz : ∀ j, j < M → P (j * 5 + j) = nI 0) : Rd l G yX2_masterBehind wsX2_masterBehind ({ frames := 3, cells := 0, slots := 0, locals := 70 } : Room) [.ref t, .int (nI b), .int (nI n)] [(t, .inr (2, [.ref ap, .ref ak, .ref ao, .int (nI M), .int (nI B)])), (ap, aI G 25 P), (ao, aI G 4 U)] (some (.int (nI (wh P M (tn (U b)) n)))) := by
  refine Rd.ofI (cc := cX2_masterBehind) (maxL := 3) (by decide) rfl (Nat.le_of_ble_eq_true rfl) ?_
  intro p e s m below meth c Q ls hE hP hK hl hret
  obtain ⟨hx, hb, hml, hown, hts⟩ := id hE
  have hl : lv_has ls 3 [(0, .ref t), (1, .int (nI b)), (2, .int (nI n))] := hl
  refine lv_aload_n hx hb dX2_masterBehind_0 rfl (lv_at hl 0 rfl) ?_
  refine lv_aload_n hx hb dX2_masterBehind_1 rfl (lv_at hl 0 rfl) ?_
  refine g_get (v := .ref ao) hx hb hts ixX2_masterBehind_X2 hown hK hP 0 rfl rfl 2 (by decide) lkX2_masterBehind_18 rfl dX2_masterBehind_2 ?_
  refine lv_iload_n hx hb dX2_masterBehind_5 rfl (lv_at hl 1 rfl) ?_
  refine n_ald hx hb hK hP 2 rfl (k := b) (by omega) (by decide) dX2_masterBehind_6 ?_
  refine lv_tope (show U b = nI (tn (U b)) from tn_of hu (by omega)) ?_
  refine lv_iload_n hx hb dX2_masterBehind_7 rfl (lv_at hl 2 rfl) ?_
  refine rdV (As := [.int (nI (tn (U b))), .int (nI n)]) (rest := []) (ci := 2) (q0 := 0) hE (kX2_stepsFrom l G t ap ak ao M B P (tn (U b)) n hM (tn_lt hu (by omega)) hn hz) (cwV 2 hts gX2_masterBehind_X2_stepsFrom rfl rfl rfl (by decide +kernel) ⟨Nat.le_of_ble_eq_true rfl, Nat.le_of_ble_eq_true rfl⟩) hP hK [0, 1] rfl rfl rfl rfl hl.1 rfl (Nat.le_of_ble_eq_true rfl) dX2_masterBehind_8 ⟨Nat.zero_le _, Nat.zero_le _⟩ ?_
  refine W.eq (g2 := F0 m 11 ls [.int (nI (wh P M (tn (U b)) n))]) rfl ?_
  exact hret _ _ _ (by first | with_reducible rfl | (simp only []; done) | contradiction) dX2_masterBehind_11

set_option maxHeartbeats 4000000 in
set_option maxRecDepth 100000 in
theorem kX4_learning (l : Launch) (G : Gl) (x : Int32) : Rd l G yX4_learning wsX4_learning ({ frames := 0, cells := 0, slots := 0, locals := 0 } : Room) [.int x] [] (some (.int (lrn x))) := by
  refine Rd.ofI (cc := cX4_learning) (maxL := 1) (by decide) rfl (Nat.le_of_ble_eq_true rfl) ?_
  intro p e s m below meth c Q ls hE hP hK hl hret
  obtain ⟨hx, hb, hml, hown, hts⟩ := id hE
  have hl : lv_has ls 1 [(0, .int x)] := hl
  refine lv_iload_n hx hb dX4_learning_0 rfl (lv_at hl 0 rfl) ?_
  by_cases c1 : x = 1
  ·
    refine lv_lookup (tgt := 28) (off := 27) hx hb dX4_learning_1 (by decide) (by rw [c1]; decide) (by decide) ?_
    refine lv_bipush (v := nI 12) hx hb dX4_learning_28 (by decide) ?_
    exact hret _ _ _ (by first | with_reducible rfl | (simp only [lrn, iF_t c1]; done) | contradiction) dX4_learning_30
  ·
    by_cases c2 : x = 2
    ·
      refine lv_lookup (tgt := 31) (off := 30) hx hb dX4_learning_1 (by decide) (by rw [c2]; decide) (by decide) ?_
      refine lv_iconst (v := nI 4) hx hb dX4_learning_31 (by decide) ?_
      exact hret _ _ _ (by first | with_reducible rfl | (simp only [lrn, iF_f c1, iF_t c2]; done) | contradiction) dX4_learning_32
    ·
      refine lv_lookup (tgt := 33) (off := 32) hx hb dX4_learning_1 (by decide) (by rw [lv_osw (k := 1) c1 (by decide), lv_osw (k := 2) c2 (by decide)]; rfl) (by decide) ?_
      refine lv_bipush (v := nI 9) hx hb dX4_learning_33 (by decide) ?_
      exact hret _ _ _ (by first | with_reducible rfl | (simp only [lrn, iF_f c1, iF_f c2]; done) | contradiction) dX4_learning_35

theorem ixX2_knownBehind_X2 : ∀ w ∈ wsX20, w ∈ wsX2_knownBehind := fun _ h => List.mem_cons_of_mem _ (List.mem_append_right _ h)
theorem lkX2_knownBehind_18 : Cond.fieldLink RX2 18 (TX2 2).1 (TX2 2).2.1 (TX2 2).2.2.1 ∈ wsX2_knownBehind := List.mem_of_getElem? (i := 1) rfl
theorem lkX2_knownBehind_15 : Cond.fieldLink RX2 15 (TX2 1).1 (TX2 1).2.1 (TX2 1).2.2.1 ∈ wsX2_knownBehind := List.mem_of_getElem? (i := 2) rfl
set_option maxHeartbeats 4000000 in
set_option maxRecDepth 100000 in
theorem kX2_knownBehind (l : Launch) (G : Gl) (t : Nat) (ap : Nat) (ak : Nat) (ao : Nat) (M : Nat) (B : Nat) (P : Nat → Int32) (K : Nat → Int32) (U : Nat → Int32) (b : Nat) (tr : Nat) (n : Nat) (hM : M ≤ 5) (hb4 : b < 4) (hu : vp_in (U b) M) (htr : tr < M) (hn : n ≤ 60) (hz : ∀ j, j < M → P (j * 5 + j) = nI 0) : Rd l G yX2_knownBehind wsX2_knownBehind ({ frames := 2, cells := 0, slots := 0, locals := 46 } : Room) [.ref t, .int (nI b), .int (nI tr), .int (nI n)] [(t, .inr (2, [.ref ap, .ref ak, .ref ao, .int (nI M), .int (nI B)])), (ap, aI G 25 P), (ak, aI G 4 K), (ao, aI G 4 U)] (some (.int (kn P M tr (lrn (K b)) (tn (U b)) n))) := by
  refine Rd.ofI (cc := cX2_knownBehind) (maxL := 7) (by decide) rfl (Nat.le_of_ble_eq_true rfl) ?_
  intro p e s m below meth c Q ls hE hP hK hl hret
  obtain ⟨hx, hb, hml, hown, hts⟩ := id hE
  have hl : lv_has ls 7 [(0, .ref t), (1, .int (nI b)), (2, .int (nI tr)), (3, .int (nI n))] := hl
  refine lv_iconst (v := nI 0) hx hb dX2_knownBehind_0 (by decide) ?_
  refine lv_istore (lv' := [(4, .int (nI 0)), (0, .ref t), (1, .int (nI b)), (2, .int (nI tr)), (3, .int (nI n))]) hx hb dX2_knownBehind_1 hl (by decide) rfl (fun ls hl => ?_)
  refine lv_aload_n hx hb dX2_knownBehind_3 rfl (lv_at hl 1 rfl) ?_
  refine g_get (v := .ref ao) hx hb hts ixX2_knownBehind_X2 hown hK hP 0 rfl rfl 2 (by decide) lkX2_knownBehind_18 rfl dX2_knownBehind_4 ?_
  refine lv_iload_n hx hb dX2_knownBehind_7 rfl (lv_at hl 2 rfl) ?_
  refine n_ald hx hb hK hP 3 rfl (k := b) (by omega) (by decide) dX2_knownBehind_8 ?_
  refine lv_tope (show U b = nI (tn (U b)) from tn_of hu (by omega)) ?_
  refine lv_istore (lv' := [(5, .int (nI (tn (U b)))), (4, .int (nI 0)), (0, .ref t), (1, .int (nI b)), (2, .int (nI tr)), (3, .int (nI n))]) hx hb dX2_knownBehind_9 hl (by decide) rfl (fun ls hl => ?_)
  refine lv_iconst (v := nI 0) hx hb dX2_knownBehind_11 (by decide) ?_
  refine lv_istore (lv' := [(6, .int (nI 0)), (5, .int (nI (tn (U b)))), (4, .int (nI 0)), (0, .ref t), (1, .int (nI b)), (2, .int (nI tr)), (3, .int (nI n))]) hx hb dX2_knownBehind_12 hl (by decide) rfl (fun ls hl => ?_)
  have loop1 : ∀ (d k : Nat) (ls : Array Slot), n < k + d → k ≤ n → lv_has ls 7 [(6, .int (nI k)), (5, .int (nI (wh P M (tn (U b)) k))), (4, .int (kn P M tr (lrn (K b)) (tn (U b)) k)), (0, .ref t), (1, .int (nI b)), (2, .int (nI tr)), (3, .int (nI n))] → W p l e ({ frames := 2, cells := 0, slots := 0, locals := 46 } : Room) s m ([.ref t, .int (nI b), .int (nI tr), .int (nI n)] : List Value).toArray below meth c s.heap [] 0 0 Q (F0 m 14 ls []) := by
    intro d
    induction d with
    | zero =>
      intro k ls h1 h2
      omega
    | succ d ih1 =>
      intro k ls hdk hbk hl
      have hwk := wh_lt (P := P) (tn_lt hu (by omega)) k
      refine lv_iload hx hb dX2_knownBehind_14 (lv_at hl 0 rfl) ?_
      refine lv_iload_n hx hb dX2_knownBehind_16 rfl (lv_at hl 6 rfl) ?_
      refine ic_ge (tgt := 63) hx hb (by omega) (by omega) dX2_knownBehind_17 (by decide) (fun c1 => ?_) (fun c1 => ?_)
      ·
        obtain rfl : n = k := by omega
        refine lv_iload hx hb dX2_knownBehind_63 (lv_at hl 2 rfl) ?_
        exact hret _ _ _ (by first | with_reducible rfl | (simp only [iF_f (Nat.not_lt.mpr c1)]; done) | contradiction) dX2_knownBehind_65
      ·
        refine lv_iload hx hb dX2_knownBehind_20 (lv_at hl 2 rfl) ?_
        refine lv_iload hx hb dX2_knownBehind_22 (lv_at hl 2 rfl) ?_
        refine lv_iconst (v := nI 3) hx hb dX2_knownBehind_24 (by decide) ?_
        refine lv_idiv hx hb dX2_knownBehind_25 (by decide) ?_
        refine lv_isub hx hb dX2_knownBehind_26 ?_
        refine lv_istore (lv' := [(4, .int ((kn P M tr (lrn (K b)) (tn (U b)) k) - ((kn P M tr (lrn (K b)) (tn (U b)) k) / (nI 3)))), (6, .int (nI k)), (5, .int (nI (wh P M (tn (U b)) k))), (0, .ref t), (1, .int (nI b)), (2, .int (nI tr)), (3, .int (nI n))]) hx hb dX2_knownBehind_27 hl (by decide) rfl (fun ls hl => ?_)
        refine lv_iload hx hb dX2_knownBehind_29 (lv_at hl 2 rfl) ?_
        refine lv_iload_n hx hb dX2_knownBehind_31 rfl (lv_at hl 5 rfl) ?_
        refine ic_ne (tgt := 49) hx hb (by omega) (by omega) dX2_knownBehind_32 (by decide) (fun c2 => ?_) (fun c2 => ?_)
        ·
          refine lv_aload_n hx hb dX2_knownBehind_49 rfl (lv_at hl 3 rfl) ?_
          refine lv_iload hx hb dX2_knownBehind_50 (lv_at hl 2 rfl) ?_
          refine rdV (As := [.int (nI (wh P M (tn (U b)) k))]) (rest := []) (ci := 2) (q0 := 0) hE (kX2_nextOf l G t ap ak ao M B P (wh P M (tn (U b)) k) hM hwk (hz _ hwk)) (cwV 1 hts gX2_knownBehind_X2_nextOf rfl rfl rfl (by decide +kernel) ⟨Nat.le_of_ble_eq_true rfl, Nat.le_of_ble_eq_true rfl⟩) hP hK [0, 1] rfl rfl rfl rfl hl.1 rfl (Nat.le_of_ble_eq_true rfl) dX2_knownBehind_52 ⟨Nat.zero_le _, Nat.zero_le _⟩ ?_
          refine W.eq (g2 := F0 m 55 ls [.int (nI (nxt P M (wh P M (tn (U b)) k)))]) rfl ?_
          refine lv_istore (lv' := [(5, .int (nI (nxt P M (wh P M (tn (U b)) k)))), (4, .int ((kn P M tr (lrn (K b)) (tn (U b)) k) - ((kn P M tr (lrn (K b)) (tn (U b)) k) / (nI 3)))), (6, .int (nI k)), (0, .ref t), (1, .int (nI b)), (2, .int (nI tr)), (3, .int (nI n))]) hx hb dX2_knownBehind_55 hl (by decide) rfl (fun ls hl => ?_)
          refine lv_iinc (v := nI (k + 1)) (lv' := [(6, .int (nI (k + 1))), (5, .int (nI (nxt P M (wh P M (tn (U b)) k)))), (4, .int ((kn P M tr (lrn (K b)) (tn (U b)) k) - ((kn P M tr (lrn (K b)) (tn (U b)) k) / (nI 3)))), (0, .ref t), (1, .int (nI b)), (2, .int (nI tr)), (3, .int (nI n))]) hx hb dX2_knownBehind_57 hl (k := 2) rfl (show nI k + Int32.ofInt 1 = nI (k + 1) from nI_add _ 1) (by decide) rfl (fun ls hl => ?_)
          refine lv_goto (tgt := 14) hx hb dX2_knownBehind_60 (by decide) ?_
          have hl3 : lv_has ls 7 [(6, .int (nI (k + 1))), (5, .int (nI (wh P M (tn (U b)) (k + 1)))), (4, .int (kn P M tr (lrn (K b)) (tn (U b)) (k + 1))), (0, .ref t), (1, .int (nI b)), (2, .int (nI tr)), (3, .int (nI n))] := by
            rw [show (nI (wh P M (tn (U b)) (k + 1))) = (nI (nxt P M (wh P M (tn (U b)) k))) from by first | rfl | simp only [kn, wh, iF_t c1, iF_f c2]]
            rw [show (kn P M tr (lrn (K b)) (tn (U b)) (k + 1)) = ((kn P M tr (lrn (K b)) (tn (U b)) k) - ((kn P M tr (lrn (K b)) (tn (U b)) k) / (nI 3))) from by first | rfl | simp only [kn, wh, iF_t c1, iF_f c2]]
            exact (lv_sub hl [0, 1, 2, 3, 4, 5, 6] rfl)
          exact ih1 (k + 1) ls (by omega) (by omega) hl3
        ·
          refine lv_iload hx hb dX2_knownBehind_35 (lv_at hl 0 rfl) ?_
          refine lv_aload_n hx hb dX2_knownBehind_37 rfl (lv_at hl 3 rfl) ?_
          refine g_get (v := .ref ak) hx hb hts ixX2_knownBehind_X2 hown hK hP 0 rfl rfl 1 (by decide) lkX2_knownBehind_15 rfl dX2_knownBehind_38 ?_
          refine lv_iload_n hx hb dX2_knownBehind_41 rfl (lv_at hl 4 rfl) ?_
          refine n_ald hx hb hK hP 2 rfl (k := b) (by omega) (by decide) dX2_knownBehind_42 ?_
          refine rdSN (As := [.int (K b)]) (rest := [.int ((kn P M tr (lrn (K b)) (tn (U b)) k) - ((kn P M tr (lrn (K b)) (tn (U b)) k) / (nI 3)))]) hE (kX4_learning l G (K b) ) ⟨va_cnB (host := "SolsticeBoys") 1 hts gX2_knownBehind_X4_learning_n49 rfl rfl rfl (hK.2 _ (by decide +kernel)) (hts (.initialized RX4) (List.mem_of_getElem? (i := 4) rfl)) (by decide +kernel) ⟨Nat.le_of_ble_eq_true rfl, Nat.le_of_ble_eq_true rfl⟩, (hts (.static yX4_learning) (List.mem_of_getElem? (i := 3) rfl)), trivial⟩ hP hK [] rfl rfl hl.1 rfl (Nat.le_of_ble_eq_true rfl) dX2_knownBehind_43 ⟨Nat.zero_le _, Nat.zero_le _⟩ ?_
          refine W.eq (g2 := F0 m 46 ls [.int (lrn (K b)), .int ((kn P M tr (lrn (K b)) (tn (U b)) k) - ((kn P M tr (lrn (K b)) (tn (U b)) k) / (nI 3)))]) rfl ?_
          refine lv_iadd hx hb dX2_knownBehind_46 ?_
          refine lv_istore (lv' := [(4, .int (((kn P M tr (lrn (K b)) (tn (U b)) k) - ((kn P M tr (lrn (K b)) (tn (U b)) k) / (nI 3))) + (lrn (K b)))), (6, .int (nI k)), (5, .int (nI (wh P M (tn (U b)) k))), (0, .ref t), (1, .int (nI b)), (2, .int (nI tr)), (3, .int (nI n))]) hx hb dX2_knownBehind_47 hl (by decide) rfl (fun ls hl => ?_)
          refine lv_aload_n hx hb dX2_knownBehind_49 rfl (lv_at hl 3 rfl) ?_
          refine lv_iload hx hb dX2_knownBehind_50 (lv_at hl 2 rfl) ?_
          refine rdV (As := [.int (nI (wh P M (tn (U b)) k))]) (rest := []) (ci := 2) (q0 := 0) hE (kX2_nextOf l G t ap ak ao M B P (wh P M (tn (U b)) k) hM hwk (hz _ hwk)) (cwV 1 hts gX2_knownBehind_X2_nextOf rfl rfl rfl (by decide +kernel) ⟨Nat.le_of_ble_eq_true rfl, Nat.le_of_ble_eq_true rfl⟩) hP hK [0, 1] rfl rfl rfl rfl hl.1 rfl (Nat.le_of_ble_eq_true rfl) dX2_knownBehind_52 ⟨Nat.zero_le _, Nat.zero_le _⟩ ?_
          refine W.eq (g2 := F0 m 55 ls [.int (nI (nxt P M (wh P M (tn (U b)) k)))]) rfl ?_
          refine lv_istore (lv' := [(5, .int (nI (nxt P M (wh P M (tn (U b)) k)))), (4, .int (((kn P M tr (lrn (K b)) (tn (U b)) k) - ((kn P M tr (lrn (K b)) (tn (U b)) k) / (nI 3))) + (lrn (K b)))), (6, .int (nI k)), (0, .ref t), (1, .int (nI b)), (2, .int (nI tr)), (3, .int (nI n))]) hx hb dX2_knownBehind_55 hl (by decide) rfl (fun ls hl => ?_)
          refine lv_iinc (v := nI (k + 1)) (lv' := [(6, .int (nI (k + 1))), (5, .int (nI (nxt P M (wh P M (tn (U b)) k)))), (4, .int (((kn P M tr (lrn (K b)) (tn (U b)) k) - ((kn P M tr (lrn (K b)) (tn (U b)) k) / (nI 3))) + (lrn (K b)))), (0, .ref t), (1, .int (nI b)), (2, .int (nI tr)), (3, .int (nI n))]) hx hb dX2_knownBehind_57 hl (k := 2) rfl (show nI k + Int32.ofInt 1 = nI (k + 1) from nI_add _ 1) (by decide) rfl (fun ls hl => ?_)
          refine lv_goto (tgt := 14) hx hb dX2_knownBehind_60 (by decide) ?_
          have hl4 : lv_has ls 7 [(6, .int (nI (k + 1))), (5, .int (nI (wh P M (tn (U b)) (k + 1)))), (4, .int (kn P M tr (lrn (K b)) (tn (U b)) (k + 1))), (0, .ref t), (1, .int (nI b)), (2, .int (nI tr)), (3, .int (nI n))] := by
            rw [show (nI (wh P M (tn (U b)) (k + 1))) = (nI (nxt P M (wh P M (tn (U b)) k))) from by first | rfl | simp only [kn, wh, iF_t c1, iF_t c2]]
            rw [show (kn P M tr (lrn (K b)) (tn (U b)) (k + 1)) = (((kn P M tr (lrn (K b)) (tn (U b)) k) - ((kn P M tr (lrn (K b)) (tn (U b)) k) / (nI 3))) + (lrn (K b))) from by first | rfl | simp only [kn, wh, iF_t c1, iF_t c2]]
            exact (lv_sub hl [0, 1, 2, 3, 4, 5, 6] rfl)
          exact ih1 (k + 1) ls (by omega) (by omega) hl4
  have hl5 : lv_has ls 7 [(6, .int (nI 0)), (5, .int (nI (wh P M (tn (U b)) 0))), (4, .int (kn P M tr (lrn (K b)) (tn (U b)) 0)), (0, .ref t), (1, .int (nI b)), (2, .int (nI tr)), (3, .int (nI n))] := by
    rw [show (nI (wh P M (tn (U b)) 0)) = (nI (tn (U b))) from by first | rfl | simp only [kn, wh]]
    rw [show (kn P M tr (lrn (K b)) (tn (U b)) 0) = (nI 0) from by first | rfl | simp only [kn, wh]]
    exact (lv_sub hl [0, 1, 2, 3, 4, 5, 6] rfl)
  exact loop1 (n + 1) 0 ls (by omega) (by omega) hl5

theorem ixX2_takeOver_X2 : ∀ w ∈ wsX20, w ∈ wsX2_takeOver := fun _ h => List.mem_cons_of_mem _ (List.mem_append_right _ h)
theorem lkX2_takeOver_9 : Cond.fieldLink RX2 9 (TX2 0).1 (TX2 0).2.1 (TX2 0).2.2.1 ∈ wsX2_takeOver := List.mem_of_getElem? (i := 1) rfl
theorem lkX2_takeOver_15 : Cond.fieldLink RX2 15 (TX2 1).1 (TX2 1).2.1 (TX2 1).2.2.1 ∈ wsX2_takeOver := List.mem_of_getElem? (i := 6) rfl
theorem lkX2_takeOver_18 : Cond.fieldLink RX2 18 (TX2 2).1 (TX2 2).2.1 (TX2 2).2.2.1 ∈ wsX2_takeOver := List.mem_of_getElem? (i := 7) rfl
theorem lkX2_takeOver_21 : Cond.fieldLink RX2 21 (TX2 3).1 (TX2 3).2.1 (TX2 3).2.2.1 ∈ wsX2_takeOver := List.mem_of_getElem? (i := 8) rfl
theorem lkX2_takeOver_25 : Cond.fieldLink RX2 25 (TX2 4).1 (TX2 4).2.1 (TX2 4).2.2.1 ∈ wsX2_takeOver := List.mem_of_getElem? (i := 9) rfl
set_option maxHeartbeats 4000000 in
set_option maxRecDepth 100000 in
theorem kX2_takeOver (l : Launch) (G : Gl) (t : Nat) (ap : Nat) (ak : Nat) (ao : Nat) (tM : Int32) (tB : Int32) (P2 : Nat → Int32) (K2 : Nat → Int32) (U2 : Nat → Int32) (t1 : Nat) (ap1 : Nat) (ak1 : Nat) (ao1 : Nat) (M : Nat) (B : Nat) (P : Nat → Int32) (K : Nat → Int32) (U : Nat → Int32) : Wt l G yX2_takeOver wsX2_takeOver ({ frames := 1, cells := 0, slots := 0, locals := 18 } : Room) [.ref t, .ref t1] [(t, .inr (2, [.ref ap, .ref ak, .ref ao, .int tM, .int tB])), (ap, aI G 25 P2), (ak, aI G 4 K2), (ao, aI G 4 U2), (t1, .inr (2, [.ref ap1, .ref ak1, .ref ao1, .int (nI M), .int (nI B)])), (ap1, aI G 25 P), (ak1, aI G 4 K), (ao1, aI G 4 U)] [(t, .inr (2, [.ref ap, .ref ak, .ref ao, .int (nI M), .int (nI B)])), (ap, aI G 25 P), (ak, aI G 4 K), (ao, aI G 4 U), (t1, .inr (2, [.ref ap1, .ref ak1, .ref ao1, .int (nI M), .int (nI B)])), (ap1, aI G 25 P), (ak1, aI G 4 K), (ao1, aI G 4 U)] none := by
  refine Wt.ofV (cc := cX2_takeOver) (maxL := 2) (by decide) rfl (Nat.le_of_ble_eq_true rfl) ?_
  intro p e s m below meth c Q A ls hE hin hP hK hD hS hl hret
  obtain ⟨hx, hb, hml, hown, hts⟩ := id hE
  have hl : lv_has ls 2 [(0, .ref t), (1, .ref t1)] := hl
  refine lv_aload_n hx hb dX2_takeOver_0 rfl (lv_at hl 1 rfl) ?_
  refine g_get (v := .ref ap1) hx hb hts ixX2_takeOver_X2 hown hK hP 4 rfl rfl 0 (by decide) lkX2_takeOver_9 rfl dX2_takeOver_1 ?_
  refine lv_iconst (v := nI 0) hx hb dX2_takeOver_4 (by decide) ?_
  refine lv_aload_n hx hb dX2_takeOver_5 rfl (lv_at hl 0 rfl) ?_
  refine g_get (v := .ref ap) hx hb hts ixX2_takeOver_X2 hown hK hP 0 rfl rfl 0 (by decide) lkX2_takeOver_9 rfl dX2_takeOver_6 ?_
  refine lv_iconst (v := nI 0) hx hb dX2_takeOver_9 (by decide) ?_
  refine lv_bipush (v := nI 25) hx hb dX2_takeOver_10 (by decide) ?_
  refine n_copy hx hb hml hts hown (List.mem_of_getElem? (i := 2) rfl) (List.mem_of_getElem? (i := 3) rfl) (List.mem_of_getElem? (i := 4) rfl) (List.mem_of_getElem? (i := 5) rfl) hK hP hD hS 5 1 rfl rfl (sp := 0) (dp := 0) (n := 25) (by omega) (by omega) (by decide) (by decide) hl.1 (Nat.le_of_ble_eq_true rfl) (Nat.le_of_ble_eq_true rfl) dX2_takeOver_12 (fun H locs hP hD hS => ?_)
  have hP : va_P G.1 vwCl [(t, .inr (2, [.ref ap, .ref ak, .ref ao, .int tM, .int tB])), (ap, aI G 25 (va_cpy P P2 0 0 25)), (ak, aI G 4 K2), (ao, aI G 4 U2), (t1, .inr (2, [.ref ap1, .ref ak1, .ref ao1, .int (nI M), .int (nI B)])), (ap1, aI G 25 P), (ak1, aI G 4 K), (ao1, aI G 4 U)] H := hP
  have hD : va_D A [(t, .inr (2, [.ref ap, .ref ak, .ref ao, .int tM, .int tB])), (ap, aI G 25 (va_cpy P P2 0 0 25)), (ak, aI G 4 K2), (ao, aI G 4 U2), (t1, .inr (2, [.ref ap1, .ref ak1, .ref ao1, .int (nI M), .int (nI B)])), (ap1, aI G 25 P), (ak1, aI G 4 K), (ao1, aI G 4 U)] := hD
  refine lv_aload_n hx hb dX2_takeOver_15 rfl (lv_at hl 1 rfl) ?_
  refine g_get (v := .ref ak1) hx hb hts ixX2_takeOver_X2 hown hK hP 4 rfl rfl 1 (by decide) lkX2_takeOver_15 rfl dX2_takeOver_16 ?_
  refine lv_iconst (v := nI 0) hx hb dX2_takeOver_19 (by decide) ?_
  refine lv_aload_n hx hb dX2_takeOver_20 rfl (lv_at hl 0 rfl) ?_
  refine g_get (v := .ref ak) hx hb hts ixX2_takeOver_X2 hown hK hP 0 rfl rfl 1 (by decide) lkX2_takeOver_15 rfl dX2_takeOver_21 ?_
  refine lv_iconst (v := nI 0) hx hb dX2_takeOver_24 (by decide) ?_
  refine lv_iconst (v := nI 4) hx hb dX2_takeOver_25 (by decide) ?_
  refine n_copy hx hb hml hts hown (List.mem_of_getElem? (i := 2) rfl) (List.mem_of_getElem? (i := 3) rfl) (List.mem_of_getElem? (i := 4) rfl) (List.mem_of_getElem? (i := 5) rfl) hK hP hD hS 6 2 rfl rfl (sp := 0) (dp := 0) (n := 4) (by omega) (by omega) (by decide) (by decide) hl.1 (Nat.le_of_ble_eq_true rfl) (Nat.le_of_ble_eq_true rfl) dX2_takeOver_26 (fun H locs hP hD hS => ?_)
  have hP : va_P G.1 vwCl [(t, .inr (2, [.ref ap, .ref ak, .ref ao, .int tM, .int tB])), (ap, aI G 25 (va_cpy P P2 0 0 25)), (ak, aI G 4 (va_cpy K K2 0 0 4)), (ao, aI G 4 U2), (t1, .inr (2, [.ref ap1, .ref ak1, .ref ao1, .int (nI M), .int (nI B)])), (ap1, aI G 25 P), (ak1, aI G 4 K), (ao1, aI G 4 U)] H := hP
  have hD : va_D A [(t, .inr (2, [.ref ap, .ref ak, .ref ao, .int tM, .int tB])), (ap, aI G 25 (va_cpy P P2 0 0 25)), (ak, aI G 4 (va_cpy K K2 0 0 4)), (ao, aI G 4 U2), (t1, .inr (2, [.ref ap1, .ref ak1, .ref ao1, .int (nI M), .int (nI B)])), (ap1, aI G 25 P), (ak1, aI G 4 K), (ao1, aI G 4 U)] := hD
  refine lv_aload_n hx hb dX2_takeOver_29 rfl (lv_at hl 1 rfl) ?_
  refine g_get (v := .ref ao1) hx hb hts ixX2_takeOver_X2 hown hK hP 4 rfl rfl 2 (by decide) lkX2_takeOver_18 rfl dX2_takeOver_30 ?_
  refine lv_iconst (v := nI 0) hx hb dX2_takeOver_33 (by decide) ?_
  refine lv_aload_n hx hb dX2_takeOver_34 rfl (lv_at hl 0 rfl) ?_
  refine g_get (v := .ref ao) hx hb hts ixX2_takeOver_X2 hown hK hP 0 rfl rfl 2 (by decide) lkX2_takeOver_18 rfl dX2_takeOver_35 ?_
  refine lv_iconst (v := nI 0) hx hb dX2_takeOver_38 (by decide) ?_
  refine lv_iconst (v := nI 4) hx hb dX2_takeOver_39 (by decide) ?_
  refine n_copy hx hb hml hts hown (List.mem_of_getElem? (i := 2) rfl) (List.mem_of_getElem? (i := 3) rfl) (List.mem_of_getElem? (i := 4) rfl) (List.mem_of_getElem? (i := 5) rfl) hK hP hD hS 7 3 rfl rfl (sp := 0) (dp := 0) (n := 4) (by omega) (by omega) (by decide) (by decide) hl.1 (Nat.le_of_ble_eq_true rfl) (Nat.le_of_ble_eq_true rfl) dX2_takeOver_40 (fun H locs hP hD hS => ?_)
  have hP : va_P G.1 vwCl [(t, .inr (2, [.ref ap, .ref ak, .ref ao, .int tM, .int tB])), (ap, aI G 25 (va_cpy P P2 0 0 25)), (ak, aI G 4 (va_cpy K K2 0 0 4)), (ao, aI G 4 (va_cpy U U2 0 0 4)), (t1, .inr (2, [.ref ap1, .ref ak1, .ref ao1, .int (nI M), .int (nI B)])), (ap1, aI G 25 P), (ak1, aI G 4 K), (ao1, aI G 4 U)] H := hP
  have hD : va_D A [(t, .inr (2, [.ref ap, .ref ak, .ref ao, .int tM, .int tB])), (ap, aI G 25 (va_cpy P P2 0 0 25)), (ak, aI G 4 (va_cpy K K2 0 0 4)), (ao, aI G 4 (va_cpy U U2 0 0 4)), (t1, .inr (2, [.ref ap1, .ref ak1, .ref ao1, .int (nI M), .int (nI B)])), (ap1, aI G 25 P), (ak1, aI G 4 K), (ao1, aI G 4 U)] := hD
  refine lv_aload_n hx hb dX2_takeOver_43 rfl (lv_at hl 0 rfl) ?_
  refine lv_aload_n hx hb dX2_takeOver_44 rfl (lv_at hl 1 rfl) ?_
  refine g_get (v := .int (nI M)) hx hb hts ixX2_takeOver_X2 hown hK hP 4 rfl rfl 3 (by decide) lkX2_takeOver_21 rfl dX2_takeOver_45 ?_
  refine g_put (v := (nI M)) hx hb hts ixX2_takeOver_X2 tyX2 tyX2_ok nmX2 hown hK hP hD hS 0 rfl rfl 3 (by decide) lkX2_takeOver_21 rfl rfl (Nat.le_of_ble_eq_true rfl) dX2_takeOver_48 (fun H locs hP hD hS => ?_)
  have hP : va_P G.1 vwCl [(t, .inr (2, [.ref ap, .ref ak, .ref ao, .int (nI M), .int tB])), (ap, aI G 25 (va_cpy P P2 0 0 25)), (ak, aI G 4 (va_cpy K K2 0 0 4)), (ao, aI G 4 (va_cpy U U2 0 0 4)), (t1, .inr (2, [.ref ap1, .ref ak1, .ref ao1, .int (nI M), .int (nI B)])), (ap1, aI G 25 P), (ak1, aI G 4 K), (ao1, aI G 4 U)] H := hP
  have hD : va_D A [(t, .inr (2, [.ref ap, .ref ak, .ref ao, .int (nI M), .int tB])), (ap, aI G 25 (va_cpy P P2 0 0 25)), (ak, aI G 4 (va_cpy K K2 0 0 4)), (ao, aI G 4 (va_cpy U U2 0 0 4)), (t1, .inr (2, [.ref ap1, .ref ak1, .ref ao1, .int (nI M), .int (nI B)])), (ap1, aI G 25 P), (ak1, aI G 4 K), (ao1, aI G 4 U)] := hD
  refine lv_aload_n hx hb dX2_takeOver_51 rfl (lv_at hl 0 rfl) ?_
  refine lv_aload_n hx hb dX2_takeOver_52 rfl (lv_at hl 1 rfl) ?_
  refine g_get (v := .int (nI B)) hx hb hts ixX2_takeOver_X2 hown hK hP 4 rfl rfl 4 (by decide) lkX2_takeOver_25 rfl dX2_takeOver_53 ?_
  refine g_put (v := (nI B)) hx hb hts ixX2_takeOver_X2 tyX2 tyX2_ok nmX2 hown hK hP hD hS 0 rfl rfl 4 (by decide) lkX2_takeOver_25 rfl rfl (Nat.le_of_ble_eq_true rfl) dX2_takeOver_56 (fun H locs hP hD hS => ?_)
  have hP : va_P G.1 vwCl [(t, .inr (2, [.ref ap, .ref ak, .ref ao, .int (nI M), .int (nI B)])), (ap, aI G 25 (va_cpy P P2 0 0 25)), (ak, aI G 4 (va_cpy K K2 0 0 4)), (ao, aI G 4 (va_cpy U U2 0 0 4)), (t1, .inr (2, [.ref ap1, .ref ak1, .ref ao1, .int (nI M), .int (nI B)])), (ap1, aI G 25 P), (ak1, aI G 4 K), (ao1, aI G 4 U)] H := hP
  have hD : va_D A [(t, .inr (2, [.ref ap, .ref ak, .ref ao, .int (nI M), .int (nI B)])), (ap, aI G 25 (va_cpy P P2 0 0 25)), (ak, aI G 4 (va_cpy K K2 0 0 4)), (ao, aI G 4 (va_cpy U U2 0 0 4)), (t1, .inr (2, [.ref ap1, .ref ak1, .ref ao1, .int (nI M), .int (nI B)])), (ap1, aI G 25 P), (ak1, aI G 4 K), (ao1, aI G 4 U)] := hD
  have hP : va_P G.1 vwCl [(t, .inr (2, [.ref ap, .ref ak, .ref ao, .int (nI M), .int (nI B)])), (ap, aI G 25 P), (ak, aI G 4 (va_cpy K K2 0 0 4)), (ao, aI G 4 (va_cpy U U2 0 0 4)), (t1, .inr (2, [.ref ap1, .ref ak1, .ref ao1, .int (nI M), .int (nI B)])), (ap1, aI G 25 P), (ak1, aI G 4 K), (ao1, aI G 4 U)] H := P_arr hP 1 P rfl cpy0
  have hD : va_D A [(t, .inr (2, [.ref ap, .ref ak, .ref ao, .int (nI M), .int (nI B)])), (ap, aI G 25 P), (ak, aI G 4 (va_cpy K K2 0 0 4)), (ao, aI G 4 (va_cpy U U2 0 0 4)), (t1, .inr (2, [.ref ap1, .ref ak1, .ref ao1, .int (nI M), .int (nI B)])), (ap1, aI G 25 P), (ak1, aI G 4 K), (ao1, aI G 4 U)] := hD.set (p := 1) rfl
  have hP : va_P G.1 vwCl [(t, .inr (2, [.ref ap, .ref ak, .ref ao, .int (nI M), .int (nI B)])), (ap, aI G 25 P), (ak, aI G 4 K), (ao, aI G 4 (va_cpy U U2 0 0 4)), (t1, .inr (2, [.ref ap1, .ref ak1, .ref ao1, .int (nI M), .int (nI B)])), (ap1, aI G 25 P), (ak1, aI G 4 K), (ao1, aI G 4 U)] H := P_arr hP 2 K rfl cpy0
  have hD : va_D A [(t, .inr (2, [.ref ap, .ref ak, .ref ao, .int (nI M), .int (nI B)])), (ap, aI G 25 P), (ak, aI G 4 K), (ao, aI G 4 (va_cpy U U2 0 0 4)), (t1, .inr (2, [.ref ap1, .ref ak1, .ref ao1, .int (nI M), .int (nI B)])), (ap1, aI G 25 P), (ak1, aI G 4 K), (ao1, aI G 4 U)] := hD.set (p := 2) rfl
  have hP : va_P G.1 vwCl [(t, .inr (2, [.ref ap, .ref ak, .ref ao, .int (nI M), .int (nI B)])), (ap, aI G 25 P), (ak, aI G 4 K), (ao, aI G 4 U), (t1, .inr (2, [.ref ap1, .ref ak1, .ref ao1, .int (nI M), .int (nI B)])), (ap1, aI G 25 P), (ak1, aI G 4 K), (ao1, aI G 4 U)] H := P_arr hP 3 U rfl cpy0
  have hD : va_D A [(t, .inr (2, [.ref ap, .ref ak, .ref ao, .int (nI M), .int (nI B)])), (ap, aI G 25 P), (ak, aI G 4 K), (ao, aI G 4 U), (t1, .inr (2, [.ref ap1, .ref ak1, .ref ao1, .int (nI M), .int (nI B)])), (ap1, aI G 25 P), (ak1, aI G 4 K), (ao1, aI G 4 U)] := hD.set (p := 3) rfl
  exact hret _ _ _ _ (hP) hS dX2_takeOver_59
