set_option maxHeartbeats 4000000 in
set_option maxRecDepth 100000 in
theorem kX4_isSheet (l : Launch) (G : Gl) (q : Int32) : Rd l G yX4_isSheet wsX4_isSheet ({ frames := 0, cells := 0, slots := 0, locals := 0 } : Room) [.int q] [] (some (.int (bI (vp_in q 4)))) := by
  refine Rd.ofZ (cc := cX4_isSheet) (maxL := 1) (by decide) rfl (Nat.le_of_ble_eq_true rfl) ?_
  intro p e s m below meth c Q ls hE hP hK hl hret
  obtain ⟨hx, hb, hml, hown, hts⟩ := id hE
  have hl : lv_has ls 1 [(0, .int q)] := hl
  refine lv_iload_n hx hb dX4_isSheet_0 rfl (lv_at hl 0 rfl) ?_
  refine lv_if_lt (tgt := 13) hx hb dX4_isSheet_1 (by decide) (fun c1 => ?_) (fun c1 => ?_)
  ·
    refine lv_iconst (v := nI 0) hx hb dX4_isSheet_13 (by decide) ?_
    exact hret _ _ _ (by first | exact (bI_t (vin_t c1 c1 (by omega))).symm | exact (bI_f (vin_f1 c1)).symm | exact (bI_f (vin_f2 c1 (by omega))).symm | exact (bI_t (vin_t1 c1 c1 (by omega))).symm | exact (bI_f (vin_f3 c1 (by omega))).symm) dX4_isSheet_14
  ·
    refine lv_iload_n hx hb dX4_isSheet_4 rfl (lv_at hl 0 rfl) ?_
    refine lv_iconst (v := nI 4) hx hb dX4_isSheet_5 (by decide) ?_
    refine lv_icmp_ge (tgt := 13) hx hb dX4_isSheet_6 (by decide) (fun c2 => ?_) (fun c2 => ?_)
    ·
      refine lv_iconst (v := nI 0) hx hb dX4_isSheet_13 (by decide) ?_
      exact hret _ _ _ (by first | exact (bI_t (vin_t c1 c2 (by omega))).symm | exact (bI_f (vin_f1 c1)).symm | exact (bI_f (vin_f2 c2 (by omega))).symm | exact (bI_t (vin_t1 c1 c2 (by omega))).symm | exact (bI_f (vin_f3 c2 (by omega))).symm) dX4_isSheet_14
    ·
      refine lv_iconst (v := nI 1) hx hb dX4_isSheet_9 (by decide) ?_
      refine lv_goto (tgt := 14) hx hb dX4_isSheet_10 (by decide) ?_
      exact hret _ _ _ (by first | exact (bI_t (vin_t c1 c2 (by omega))).symm | exact (bI_f (vin_f1 c1)).symm | exact (bI_f (vin_f2 c2 (by omega))).symm | exact (bI_t (vin_t1 c1 c2 (by omega))).symm | exact (bI_f (vin_f3 c2 (by omega))).symm) dX4_isSheet_14

set_option maxHeartbeats 4000000 in
set_option maxRecDepth 100000 in
theorem kX4_isLane (l : Launch) (G : Gl) (q : Int32) : Rd l G yX4_isLane wsX4_isLane ({ frames := 0, cells := 0, slots := 0, locals := 0 } : Room) [.int q] [] (some (.int (bI (vp_in q (2 + 1))))) := by
  refine Rd.ofZ (cc := cX4_isLane) (maxL := 1) (by decide) rfl (Nat.le_of_ble_eq_true rfl) ?_
  intro p e s m below meth c Q ls hE hP hK hl hret
  obtain ⟨hx, hb, hml, hown, hts⟩ := id hE
  have hl : lv_has ls 1 [(0, .int q)] := hl
  refine lv_iload_n hx hb dX4_isLane_0 rfl (lv_at hl 0 rfl) ?_
  refine lv_if_lt (tgt := 13) hx hb dX4_isLane_1 (by decide) (fun c1 => ?_) (fun c1 => ?_)
  ·
    refine lv_iconst (v := nI 0) hx hb dX4_isLane_13 (by decide) ?_
    exact hret _ _ _ ((bI_f (vin_f1 c1)).symm) dX4_isLane_14
  ·
    refine lv_iload_n hx hb dX4_isLane_4 rfl (lv_at hl 0 rfl) ?_
    refine lv_iconst (v := nI 2) hx hb dX4_isLane_5 (by decide) ?_
    refine lv_icmp_gt (tgt := 13) hx hb dX4_isLane_6 (by decide) (fun c2 => ?_) (fun c2 => ?_)
    ·
      refine lv_iconst (v := nI 0) hx hb dX4_isLane_13 (by decide) ?_
      exact hret _ _ _ ((bI_f (vin_f3 (i32_lt c2) (by omega))).symm) dX4_isLane_14
    ·
      refine lv_iconst (v := nI 1) hx hb dX4_isLane_9 (by decide) ?_
      refine lv_goto (tgt := 14) hx hb dX4_isLane_10 (by decide) ?_
      exact hret _ _ _ ((bI_t (vin_t1 c1 (i32_nlt c2) (by omega))).symm) dX4_isLane_14

theorem ixX4_refused_X4 : ∀ w ∈ wsX40, w ∈ wsX4_refused := fun _ h => List.mem_cons_of_mem _ (List.mem_append_right _ h)
theorem lkX4_refused_40 : Cond.fieldLink RX4 40 (TX4 6).1 (TX4 6).2.1 (TX4 6).2.2.1 ∈ wsX4_refused := List.mem_of_getElem? (i := 1) rfl
set_option maxHeartbeats 4000000 in
set_option maxRecDepth 100000 in
theorem kX4_refused (l : Launch) (G : Gl) (x : Nat) (st : Nat) (tr : Nat) (ra : Nat) (sa : Nat) (R : Nat) (tc : Int32) (fl : Int32) (q : Int32) : Wt l G yX4_refused wsX4_refused ({ frames := 0, cells := 0, slots := 0, locals := 0 } : Room) [.ref x, .int q] [(x, .inr (4, [.ref st, .ref tr, .ref ra, .int (nI R), .ref sa, .int tc, .int fl]))] [(x, .inr (4, [.ref st, .ref tr, .ref ra, .int (nI R), .ref sa, .int tc, .int (nI 0)]))] (some (.int q)) := by
  refine Wt.ofI (cc := cX4_refused) (maxL := 2) (by decide) rfl (Nat.le_of_ble_eq_true rfl) ?_
  intro p e s m below meth c Q A ls hE hP hK hD hS hl hret
  obtain ⟨hx, hb, hml, hown, hts⟩ := id hE
  have hl : lv_has ls 2 [(0, .ref x), (1, .int q)] := hl
  refine lv_aload_n hx hb dX4_refused_0 rfl (lv_at hl 0 rfl) ?_
  refine lv_iconst (v := nI 0) hx hb dX4_refused_1 (by decide) ?_
  refine g_put (v := (nI 0)) hx hb hts ixX4_refused_X4 tyX4 tyX4_ok nmX4 hown hK hP hD hS 0 rfl rfl 6 (by decide) lkX4_refused_40 rfl rfl (Nat.le_of_ble_eq_true rfl) dX4_refused_2 (fun H locs hP hD hS => ?_)
  have hP : va_P G.1 vwCl [(x, .inr (4, [.ref st, .ref tr, .ref ra, .int (nI R), .ref sa, .int tc, .int (nI 0)]))] H := hP
  have hD : va_D A [(x, .inr (4, [.ref st, .ref tr, .ref ra, .int (nI R), .ref sa, .int tc, .int (nI 0)]))] := hD
  refine lv_iload_n hx hb dX4_refused_5 rfl (lv_at hl 1 rfl) ?_
  exact hret _ _ _ _ _ (by first | with_reducible rfl | (simp only []; done) | contradiction) (hP) hS dX4_refused_6

theorem ixX4_faulted_X4 : ∀ w ∈ wsX40, w ∈ wsX4_faulted := fun _ h => List.mem_cons_of_mem _ (List.mem_append_right _ h)
theorem lkX4_faulted_40 : Cond.fieldLink RX4 40 (TX4 6).1 (TX4 6).2.1 (TX4 6).2.2.1 ∈ wsX4_faulted := List.mem_of_getElem? (i := 1) rfl
set_option maxHeartbeats 4000000 in
set_option maxRecDepth 100000 in
theorem kX4_faulted (l : Launch) (G : Gl) (x : Nat) (st : Nat) (tr : Nat) (ra : Nat) (sa : Nat) (R : Nat) (tc : Int32) (fl : Int32) (q : Int32) : Wt l G yX4_faulted wsX4_faulted ({ frames := 0, cells := 0, slots := 0, locals := 0 } : Room) [.ref x, .int q] [(x, .inr (4, [.ref st, .ref tr, .ref ra, .int (nI R), .ref sa, .int tc, .int fl]))] [(x, .inr (4, [.ref st, .ref tr, .ref ra, .int (nI R), .ref sa, .int tc, .int q]))] (some (.int ((-10) - q))) := by
  refine Wt.ofI (cc := cX4_faulted) (maxL := 2) (by decide) rfl (Nat.le_of_ble_eq_true rfl) ?_
  intro p e s m below meth c Q A ls hE hP hK hD hS hl hret
  obtain ⟨hx, hb, hml, hown, hts⟩ := id hE
  have hl : lv_has ls 2 [(0, .ref x), (1, .int q)] := hl
  refine lv_aload_n hx hb dX4_faulted_0 rfl (lv_at hl 0 rfl) ?_
  refine lv_iload_n hx hb dX4_faulted_1 rfl (lv_at hl 1 rfl) ?_
  refine g_put (v := q) hx hb hts ixX4_faulted_X4 tyX4 tyX4_ok nmX4 hown hK hP hD hS 0 rfl rfl 6 (by decide) lkX4_faulted_40 rfl rfl (Nat.le_of_ble_eq_true rfl) dX4_faulted_2 (fun H locs hP hD hS => ?_)
  have hP : va_P G.1 vwCl [(x, .inr (4, [.ref st, .ref tr, .ref ra, .int (nI R), .ref sa, .int tc, .int q]))] H := hP
  have hD : va_D A [(x, .inr (4, [.ref st, .ref tr, .ref ra, .int (nI R), .ref sa, .int tc, .int q]))] := hD
  refine lv_bipush (v := (-10)) hx hb dX4_faulted_5 (by decide) ?_
  refine lv_iload_n hx hb dX4_faulted_7 rfl (lv_at hl 1 rfl) ?_
  refine lv_isub hx hb dX4_faulted_8 ?_
  exact hret _ _ _ _ _ (by first | with_reducible rfl | (simp only []; done) | contradiction) (hP) hS dX4_faulted_9

theorem ixX4_leaveTrace_X4 : ∀ w ∈ wsX40, w ∈ wsX4_leaveTrace := fun _ h => List.mem_cons_of_mem _ (List.mem_append_right _ h)
theorem lkX4_leaveTrace_37 : Cond.fieldLink RX4 37 (TX4 5).1 (TX4 5).2.1 (TX4 5).2.2.1 ∈ wsX4_leaveTrace := List.mem_of_getElem? (i := 1) rfl
set_option maxHeartbeats 4000000 in
set_option maxRecDepth 100000 in
theorem kX4_leaveTrace (l : Launch) (G : Gl) (x : Nat) (st : Nat) (tr : Nat) (ra : Nat) (sa : Nat) (R : Nat) (tc : Int32) (fl : Int32) (q : Int32) : Wt l G yX4_leaveTrace wsX4_leaveTrace ({ frames := 0, cells := 0, slots := 0, locals := 0 } : Room) [.ref x, .int q] [(x, .inr (4, [.ref st, .ref tr, .ref ra, .int (nI R), .ref sa, .int tc, .int fl]))] [(x, .inr (4, [.ref st, .ref tr, .ref ra, .int (nI R), .ref sa, .int (lt1 tc q), .int fl]))] none := by
  refine Wt.ofV (cc := cX4_leaveTrace) (maxL := 2) (by decide) rfl (Nat.le_of_ble_eq_true rfl) ?_
  intro p e s m below meth c Q A ls hE hin hP hK hD hS hl hret
  obtain ⟨hx, hb, hml, hown, hts⟩ := id hE
  have hl : lv_has ls 2 [(0, .ref x), (1, .int q)] := hl
  refine lv_aload_n hx hb dX4_leaveTrace_0 rfl (lv_at hl 0 rfl) ?_
  refine lv_bipush (v := nI 31) hx hb dX4_leaveTrace_1 (by decide) ?_
  refine lv_aload_n hx hb dX4_leaveTrace_3 rfl (lv_at hl 0 rfl) ?_
  refine g_get (v := .int tc) hx hb hts ixX4_leaveTrace_X4 hown hK hP 0 rfl rfl 5 (by decide) lkX4_leaveTrace_37 rfl dX4_leaveTrace_4 ?_
  refine lv_imul hx hb dX4_leaveTrace_7 ?_
  refine lv_iload_n hx hb dX4_leaveTrace_8 rfl (lv_at hl 1 rfl) ?_
  refine lv_iadd hx hb dX4_leaveTrace_9 ?_
  refine g_put (v := (((nI 31) * tc) + q)) hx hb hts ixX4_leaveTrace_X4 tyX4 tyX4_ok nmX4 hown hK hP hD hS 0 rfl rfl 5 (by decide) lkX4_leaveTrace_37 rfl rfl (Nat.le_of_ble_eq_true rfl) dX4_leaveTrace_10 (fun H locs hP hD hS => ?_)
  have hP : va_P G.1 vwCl [(x, .inr (4, [.ref st, .ref tr, .ref ra, .int (nI R), .ref sa, .int (((nI 31) * tc) + q), .int fl]))] H := hP
  have hD : va_D A [(x, .inr (4, [.ref st, .ref tr, .ref ra, .int (nI R), .ref sa, .int (((nI 31) * tc) + q), .int fl]))] := hD
  exact hret _ _ _ _ (by first | with_reducible exact hP | (simp only [lt1]; with_reducible exact hP) | contradiction | (simp only [lt1]; exact hP) | exact hP) hS dX4_leaveTrace_13

theorem ixX4_trace_X4 : ∀ w ∈ wsX40, w ∈ wsX4_trace := fun _ h => List.mem_cons_of_mem _ (List.mem_append_right _ h)
theorem lkX4_trace_37 : Cond.fieldLink RX4 37 (TX4 5).1 (TX4 5).2.1 (TX4 5).2.2.1 ∈ wsX4_trace := List.mem_of_getElem? (i := 1) rfl
set_option maxHeartbeats 4000000 in
set_option maxRecDepth 100000 in
theorem kX4_trace (l : Launch) (G : Gl) (x : Nat) (st : Nat) (tr : Nat) (ra : Nat) (sa : Nat) (R : Nat) (tc : Int32) (fl : Int32) : Rd l G yX4_trace wsX4_trace ({ frames := 0, cells := 0, slots := 0, locals := 0 } : Room) [.ref x] [(x, .inr (4, [.ref st, .ref tr, .ref ra, .int (nI R), .ref sa, .int tc, .int fl]))] (some (.int tc)) := by
  refine Rd.ofI (cc := cX4_trace) (maxL := 1) (by decide) rfl (Nat.le_of_ble_eq_true rfl) ?_
  intro p e s m below meth c Q ls hE hP hK hl hret
  obtain ⟨hx, hb, hml, hown, hts⟩ := id hE
  have hl : lv_has ls 1 [(0, .ref x)] := hl
  refine lv_aload_n hx hb dX4_trace_0 rfl (lv_at hl 0 rfl) ?_
  refine g_get (v := .int tc) hx hb hts ixX4_trace_X4 hown hK hP 0 rfl rfl 5 (by decide) lkX4_trace_37 rfl dX4_trace_1 ?_
  exact hret _ _ _ (by first | with_reducible rfl | (simp only []; done) | contradiction) dX4_trace_4

theorem ixX4_fault_X4 : ∀ w ∈ wsX40, w ∈ wsX4_fault := fun _ h => List.mem_cons_of_mem _ (List.mem_append_right _ h)
theorem lkX4_fault_40 : Cond.fieldLink RX4 40 (TX4 6).1 (TX4 6).2.1 (TX4 6).2.2.1 ∈ wsX4_fault := List.mem_of_getElem? (i := 1) rfl
set_option maxHeartbeats 4000000 in
set_option maxRecDepth 100000 in
theorem kX4_fault (l : Launch) (G : Gl) (x : Nat) (st : Nat) (tr : Nat) (ra : Nat) (sa : Nat) (R : Nat) (tc : Int32) (fl : Int32) : Rd l G yX4_fault wsX4_fault ({ frames := 0, cells := 0, slots := 0, locals := 0 } : Room) [.ref x] [(x, .inr (4, [.ref st, .ref tr, .ref ra, .int (nI R), .ref sa, .int tc, .int fl]))] (some (.int fl)) := by
  refine Rd.ofI (cc := cX4_fault) (maxL := 1) (by decide) rfl (Nat.le_of_ble_eq_true rfl) ?_
  intro p e s m below meth c Q ls hE hP hK hl hret
  obtain ⟨hx, hb, hml, hown, hts⟩ := id hE
  have hl : lv_has ls 1 [(0, .ref x)] := hl
  refine lv_aload_n hx hb dX4_fault_0 rfl (lv_at hl 0 rfl) ?_
  refine g_get (v := .int fl) hx hb hts ixX4_fault_X4 hown hK hP 0 rfl rfl 6 (by decide) lkX4_fault_40 rfl dX4_fault_1 ?_
  exact hret _ _ _ (by first | with_reducible rfl | (simp only []; done) | contradiction) dX4_fault_4

theorem ixX4_ofBoy_X4 : ∀ w ∈ wsX40, w ∈ wsX4_ofBoy := fun _ h => List.mem_cons_of_mem _ (List.mem_append_left _ (List.mem_append_right _ h))
theorem lkX4_ofBoy_12 : Cond.fieldLink RX4 12 (TX4 0).1 (TX4 0).2.1 (TX4 0).2.2.1 ∈ wsX4_ofBoy := List.mem_of_getElem? (i := 1) rfl
theorem ixX4_ofBoy_X2 : ∀ w ∈ wsX20, w ∈ wsX4_ofBoy := fun _ h => List.mem_cons_of_mem _ (List.mem_append_right _ h)
set_option maxHeartbeats 4000000 in
set_option maxRecDepth 100000 in
theorem kX4_ofBoy (l : Launch) (G : Gl) (x : Nat) (st : Nat) (tr : Nat) (ra : Nat) (sa : Nat) (R : Nat) (tc : Int32) (fl : Int32) (ap : Nat) (ak : Nat) (ao : Nat) (M : Nat) (B : Nat) (K : Nat → Int32) (U : Nat → Int32) (b : Int32) (w : Int32) (hB : B ≤ 4) : Rd l G yX4_ofBoy wsX4_ofBoy ({ frames := 1, cells := 0, slots := 0, locals := 21 } : Room) [.ref x, .int b, .int w] [(x, .inr (4, [.ref st, .ref tr, .ref ra, .int (nI R), .ref sa, .int tc, .int fl])), (st, .inr (2, [.ref ap, .ref ak, .ref ao, .int (nI M), .int (nI B)])), (ak, aI G 4 K), (ao, aI G 4 U)] (some (.int (s_ofBoy B K U b w))) := by
  refine Rd.ofI (cc := cX4_ofBoy) (maxL := 3) (by decide) rfl (Nat.le_of_ble_eq_true rfl) ?_
  intro p e s m below meth c Q ls hE hP hK hl hret
  obtain ⟨hx, hb, hml, hown, hts⟩ := id hE
  have hl : lv_has ls 3 [(0, .ref x), (1, .int b), (2, .int w)] := hl
  refine lv_aload_n hx hb dX4_ofBoy_0 rfl (lv_at hl 0 rfl) ?_
  refine g_get (v := .ref st) hx hb hts ixX4_ofBoy_X4 hown hK hP 0 rfl rfl 0 (by decide) lkX4_ofBoy_12 rfl dX4_ofBoy_1 ?_
  refine lv_iload_n hx hb dX4_ofBoy_4 rfl (lv_at hl 1 rfl) ?_
  refine rdV (As := [.int b]) (rest := []) (ci := 2) (q0 := 1) hE (kX2_hasBoy l G st ap ak ao M B b hB) (cwV 1 hts gX4_ofBoy_X2_hasBoy rfl rfl rfl (by decide +kernel) ⟨Nat.le_of_ble_eq_true rfl, Nat.le_of_ble_eq_true rfl⟩) hP hK [1] rfl rfl rfl rfl hl.1 rfl (Nat.le_of_ble_eq_true rfl) dX4_ofBoy_5 ⟨Nat.zero_le _, Nat.zero_le _⟩ ?_
  refine W.eq (g2 := F0 m 8 ls [.int (bI (vp_in b B))]) rfl ?_
  refine bz_ne (tgt := 13) hx hb dX4_ofBoy_8 (by decide) (fun c1 => ?_) (fun c1 => ?_)
  ·
    obtain ⟨jb, hjb, rfl⟩ := vp_in_of c1 (by omega)
    refine lv_iload_n hx hb dX4_ofBoy_13 rfl (lv_at hl 2 rfl) ?_
    by_cases c2 : w = 0
    ·
      refine lv_tableIn (tgt := 40) (off := 26) hx hb dX4_ofBoy_14 (by rw [c2]; decide) (by rw [c2]; decide) (by rw [c2]; decide) (by decide) ?_
      refine lv_aload_n hx hb dX4_ofBoy_40 rfl (lv_at hl 0 rfl) ?_
      refine g_get (v := .ref st) hx hb hts ixX4_ofBoy_X4 hown hK hP 0 rfl rfl 0 (by decide) lkX4_ofBoy_12 rfl dX4_ofBoy_41 ?_
      refine g_getN (v := .ref ak) hx hb hts ixX4_ofBoy_X2 hown hK hP 1 rfl rfl 1 (by decide) nkX4_82 rfl dX4_ofBoy_44 ?_
      refine lv_iload_n hx hb dX4_ofBoy_47 rfl (lv_at hl 1 rfl) ?_
      refine n_ald hx hb hK hP 2 rfl (k := jb) (by omega) (by decide) dX4_ofBoy_48 ?_
      exact hret _ _ _ (by first | with_reducible rfl | (simp only [s_ofBoy, iF_t c1, iF_t c2, tn_nI (show jb < 2 ^ 31 by omega)]; done) | contradiction) dX4_ofBoy_49
    ·
      by_cases c3 : w = 1
      ·
        refine lv_tableIn (tgt := 50) (off := 36) hx hb dX4_ofBoy_14 (by rw [c3]; decide) (by rw [c3]; decide) (by rw [c3]; decide) (by decide) ?_
        refine lv_aload_n hx hb dX4_ofBoy_50 rfl (lv_at hl 0 rfl) ?_
        refine g_get (v := .ref st) hx hb hts ixX4_ofBoy_X4 hown hK hP 0 rfl rfl 0 (by decide) lkX4_ofBoy_12 rfl dX4_ofBoy_51 ?_
        refine g_getN (v := .ref ao) hx hb hts ixX4_ofBoy_X2 hown hK hP 1 rfl rfl 2 (by decide) nkX4_86 rfl dX4_ofBoy_54 ?_
        refine lv_iload_n hx hb dX4_ofBoy_57 rfl (lv_at hl 1 rfl) ?_
        refine n_ald hx hb hK hP 3 rfl (k := jb) (by omega) (by decide) dX4_ofBoy_58 ?_
        exact hret _ _ _ (by first | with_reducible rfl | (simp only [s_ofBoy, iF_t c1, iF_f c2, iF_t c3, tn_nI (show jb < 2 ^ 31 by omega)]; done) | contradiction) dX4_ofBoy_59
      ·
        by_cases c4 : w = 2
        ·
          refine lv_tableIn (tgt := 60) (off := 46) hx hb dX4_ofBoy_14 (by rw [c4]; decide) (by rw [c4]; decide) (by rw [c4]; decide) (by decide) ?_
          refine lv_aload_n hx hb dX4_ofBoy_60 rfl (lv_at hl 0 rfl) ?_
          refine g_get (v := .ref st) hx hb hts ixX4_ofBoy_X4 hown hK hP 0 rfl rfl 0 (by decide) lkX4_ofBoy_12 rfl dX4_ofBoy_61 ?_
          refine g_getN (v := .ref ak) hx hb hts ixX4_ofBoy_X2 hown hK hP 1 rfl rfl 1 (by decide) nkX4_82 rfl dX4_ofBoy_64 ?_
          refine lv_iload_n hx hb dX4_ofBoy_67 rfl (lv_at hl 1 rfl) ?_
          refine n_ald hx hb hK hP 2 rfl (k := jb) (by omega) (by decide) dX4_ofBoy_68 ?_
          refine rdS (As := [.int (K jb)]) (rest := []) hE (kX4_learning l G (K jb) ) (va_cwS 1 hts gX4_ofBoy_X4_learning rfl rfl rfl (by decide +kernel) ⟨Nat.le_of_ble_eq_true rfl, Nat.le_of_ble_eq_true rfl⟩) hP hK [] rfl rfl hl.1 rfl (Nat.le_of_ble_eq_true rfl) dX4_ofBoy_69 ⟨Nat.zero_le _, Nat.zero_le _⟩ ?_
          refine W.eq (g2 := F0 m 72 ls [.int (lrn (K jb))]) rfl ?_
          exact hret _ _ _ (by first | with_reducible rfl | (simp only [s_ofBoy, iF_t c1, iF_f c2, iF_f c3, iF_t c4, tn_nI (show jb < 2 ^ 31 by omega)]; done) | contradiction) dX4_ofBoy_72
        ·
          refine lv_tableOut (tgt := 73) hx hb dX4_ofBoy_14 (sw_out3 c2 c3 c4) (by decide) ?_
          refine lv_bipush (v := (-2)) hx hb dX4_ofBoy_73 (by decide) ?_
          exact hret _ _ _ (by first | with_reducible rfl | (simp only [s_ofBoy, iF_t c1, iF_f c2, iF_f c3, iF_f c4, tn_nI (show jb < 2 ^ 31 by omega)]; done) | contradiction) dX4_ofBoy_75
  ·
    refine lv_iconst (v := (-1)) hx hb dX4_ofBoy_11 (by decide) ?_
    exact hret _ _ _ (by first | with_reducible rfl | (simp only [s_ofBoy, iF_f c1]; done) | contradiction) dX4_ofBoy_12

theorem ixX4_owes_X4 : ∀ w ∈ wsX40, w ∈ wsX4_owes := fun _ h => List.mem_cons_of_mem _ (List.mem_append_left _ (List.mem_append_right _ h))
theorem lkX4_owes_12 : Cond.fieldLink RX4 12 (TX4 0).1 (TX4 0).2.1 (TX4 0).2.2.1 ∈ wsX4_owes := List.mem_of_getElem? (i := 1) rfl
set_option maxHeartbeats 4000000 in
set_option maxRecDepth 100000 in
theorem kX4_owes (l : Launch) (G : Gl) (x : Nat) (st : Nat) (tr : Nat) (ra : Nat) (sa : Nat) (R : Nat) (tc : Int32) (fl : Int32) (ap : Nat) (ak : Nat) (ao : Nat) (M : Nat) (B : Nat) (P : Nat → Int32) (a : Int32) (b : Int32) (hM : M ≤ 5) : Rd l G yX4_owes wsX4_owes ({ frames := 1, cells := 0, slots := 0, locals := 22 } : Room) [.ref x, .int a, .int b] [(x, .inr (4, [.ref st, .ref tr, .ref ra, .int (nI R), .ref sa, .int tc, .int fl])), (st, .inr (2, [.ref ap, .ref ak, .ref ao, .int (nI M), .int (nI B)])), (ap, aI G 25 P)] (some (.int (s_owes M P a b))) := by
  refine Rd.ofI (cc := cX4_owes) (maxL := 3) (by decide) rfl (Nat.le_of_ble_eq_true rfl) ?_
  intro p e s m below meth c Q ls hE hP hK hl hret
  obtain ⟨hx, hb, hml, hown, hts⟩ := id hE
  have hl : lv_has ls 3 [(0, .ref x), (1, .int a), (2, .int b)] := hl
  refine lv_aload_n hx hb dX4_owes_0 rfl (lv_at hl 0 rfl) ?_
  refine g_get (v := .ref st) hx hb hts ixX4_owes_X4 hown hK hP 0 rfl rfl 0 (by decide) lkX4_owes_12 rfl dX4_owes_1 ?_
  refine lv_iload_n hx hb dX4_owes_4 rfl (lv_at hl 1 rfl) ?_
  refine rdV (As := [.int a]) (rest := []) (ci := 2) (q0 := 1) hE (kX2_hasMaster l G st ap ak ao M B a hM) (cwV 1 hts gX4_owes_X2_hasMaster rfl rfl rfl (by decide +kernel) ⟨Nat.le_of_ble_eq_true rfl, Nat.le_of_ble_eq_true rfl⟩) hP hK [1] rfl rfl rfl rfl hl.1 rfl (Nat.le_of_ble_eq_true rfl) dX4_owes_5 ⟨Nat.zero_le _, Nat.zero_le _⟩ ?_
  refine W.eq (g2 := F0 m 8 ls [.int (bI (vp_in a M))]) rfl ?_
  refine bz_eq (tgt := 22) hx hb dX4_owes_8 (by decide) (fun c1 => ?_) (fun c1 => ?_)
  ·
    refine lv_iconst (v := (-1)) hx hb dX4_owes_22 (by decide) ?_
    exact hret _ _ _ (by first | with_reducible rfl | (simp only [s_owes, iF_f c1]; done) | contradiction) dX4_owes_23
  ·
    obtain ⟨ja, hja, rfl⟩ := vp_in_of c1 (by omega)
    refine lv_aload_n hx hb dX4_owes_11 rfl (lv_at hl 0 rfl) ?_
    refine g_get (v := .ref st) hx hb hts ixX4_owes_X4 hown hK hP 0 rfl rfl 0 (by decide) lkX4_owes_12 rfl dX4_owes_12 ?_
    refine lv_iload_n hx hb dX4_owes_15 rfl (lv_at hl 2 rfl) ?_
    refine rdV (As := [.int b]) (rest := []) (ci := 2) (q0 := 1) hE (kX2_hasMaster l G st ap ak ao M B b hM) (cwV 1 hts gX4_owes_X2_hasMaster rfl rfl rfl (by decide +kernel) ⟨Nat.le_of_ble_eq_true rfl, Nat.le_of_ble_eq_true rfl⟩) hP hK [1] rfl rfl rfl rfl hl.1 rfl (Nat.le_of_ble_eq_true rfl) dX4_owes_16 ⟨Nat.zero_le _, Nat.zero_le _⟩ ?_
    refine W.eq (g2 := F0 m 19 ls [.int (bI (vp_in b M))]) rfl ?_
    refine bz_ne (tgt := 24) hx hb dX4_owes_19 (by decide) (fun c2 => ?_) (fun c2 => ?_)
    ·
      obtain ⟨jb, hjb, rfl⟩ := vp_in_of c2 (by omega)
      refine lv_aload_n hx hb dX4_owes_24 rfl (lv_at hl 0 rfl) ?_
      refine g_get (v := .ref st) hx hb hts ixX4_owes_X4 hown hK hP 0 rfl rfl 0 (by decide) lkX4_owes_12 rfl dX4_owes_25 ?_
      refine lv_iload_n hx hb dX4_owes_28 rfl (lv_at hl 1 rfl) ?_
      refine lv_iload_n hx hb dX4_owes_29 rfl (lv_at hl 2 rfl) ?_
      refine rdV (As := [.int (nI ja), .int (nI jb)]) (rest := []) (ci := 2) (q0 := 1) hE (kX2_debt l G st ap ak ao M B P ja jb (by first | omega | assumption)) (cwV 2 hts gX4_owes_X2_debt rfl rfl rfl (by decide +kernel) ⟨Nat.le_of_ble_eq_true rfl, Nat.le_of_ble_eq_true rfl⟩) hP hK [1, 2] rfl rfl rfl rfl hl.1 rfl (Nat.le_of_ble_eq_true rfl) dX4_owes_30 ⟨Nat.zero_le _, Nat.zero_le _⟩ ?_
      refine W.eq (g2 := F0 m 33 ls [.int (P (ja * 5 + jb))]) rfl ?_
      exact hret _ _ _ (by first | with_reducible rfl | (simp only [s_owes, iF_t c1, iF_t c2, tn_nI (show ja < 2 ^ 31 by omega), tn_nI (show jb < 2 ^ 31 by omega)]; done) | contradiction) dX4_owes_33
    ·
      refine lv_iconst (v := (-1)) hx hb dX4_owes_22 (by decide) ?_
      exact hret _ _ _ (by first | with_reducible rfl | (simp only [s_owes, iF_t c1, iF_f c2, tn_nI (show ja < 2 ^ 31 by omega)]; done) | contradiction) dX4_owes_23
