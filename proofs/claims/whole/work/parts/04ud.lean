theorem ixX4_many_X4 : ∀ w ∈ wsX40, w ∈ wsX4_many := fun _ h => List.mem_cons_of_mem _ (List.mem_append_left _ (List.mem_append_right _ h))
theorem lkX4_many_12 : Cond.fieldLink RX4 12 (TX4 0).1 (TX4 0).2.1 (TX4 0).2.2.1 ∈ wsX4_many := List.mem_of_getElem? (i := 1) rfl
theorem ixX4_many_X2 : ∀ w ∈ wsX20, w ∈ wsX4_many := fun _ h => List.mem_cons_of_mem _ (List.mem_append_right _ h)
theorem lkX4_many_27 : Cond.fieldLink RX4 27 (TX4 3).1 (TX4 3).2.1 (TX4 3).2.2.1 ∈ wsX4_many := List.mem_of_getElem? (i := 2) rfl
set_option maxHeartbeats 4000000 in
set_option maxRecDepth 100000 in
theorem kX4_many (l : Launch) (G : Gl) (x : Nat) (st : Nat) (tr : Nat) (ra : Nat) (sa : Nat) (R : Nat) (tc : Int32) (fl : Int32) (ap : Nat) (ak : Nat) (ao : Nat) (M : Nat) (B : Nat) (w : Int32) : Rd l G yX4_many wsX4_many ({ frames := 0, cells := 0, slots := 0, locals := 0 } : Room) [.ref x, .int w] [(x, .inr (4, [.ref st, .ref tr, .ref ra, .int (nI R), .ref sa, .int tc, .int fl])), (st, .inr (2, [.ref ap, .ref ak, .ref ao, .int (nI M), .int (nI B)]))] (some (.int (s_many B M R w))) := by
  refine Rd.ofI (cc := cX4_many) (maxL := 2) (by decide) rfl (Nat.le_of_ble_eq_true rfl) ?_
  intro p e s m below meth c Q ls hE hP hK hl hret
  obtain ⟨hx, hb, hml, hown, hts⟩ := id hE
  have hl : lv_has ls 2 [(0, .ref x), (1, .int w)] := hl
  refine lv_iload_n hx hb dX4_many_0 rfl (lv_at hl 1 rfl) ?_
  by_cases c1 : w = 0
  ·
    refine lv_tableIn (tgt := 28) (off := 27) hx hb dX4_many_1 (by rw [c1]; decide) (by rw [c1]; decide) (by rw [c1]; decide) (by decide) ?_
    refine lv_aload_n hx hb dX4_many_28 rfl (lv_at hl 0 rfl) ?_
    refine g_get (v := .ref st) hx hb hts ixX4_many_X4 hown hK hP 0 rfl rfl 0 (by decide) lkX4_many_12 rfl dX4_many_29 ?_
    refine g_getN (v := .int (nI B)) hx hb hts ixX4_many_X2 hown hK hP 1 rfl rfl 4 (by decide) nkX4_76 rfl dX4_many_32 ?_
    exact hret _ _ _ (by first | with_reducible rfl | (simp only [s_many, iF_t c1]; done) | contradiction) dX4_many_35
  ·
    by_cases c2 : w = 1
    ·
      refine lv_tableIn (tgt := 36) (off := 35) hx hb dX4_many_1 (by rw [c2]; decide) (by rw [c2]; decide) (by rw [c2]; decide) (by decide) ?_
      refine lv_aload_n hx hb dX4_many_36 rfl (lv_at hl 0 rfl) ?_
      refine g_get (v := .ref st) hx hb hts ixX4_many_X4 hown hK hP 0 rfl rfl 0 (by decide) lkX4_many_12 rfl dX4_many_37 ?_
      refine g_getN (v := .int (nI M)) hx hb hts ixX4_many_X2 hown hK hP 1 rfl rfl 3 (by decide) nkX4_119 rfl dX4_many_40 ?_
      exact hret _ _ _ (by first | with_reducible rfl | (simp only [s_many, iF_f c1, iF_t c2]; done) | contradiction) dX4_many_43
    ·
      by_cases c3 : w = 2
      ·
        refine lv_tableIn (tgt := 44) (off := 43) hx hb dX4_many_1 (by rw [c3]; decide) (by rw [c3]; decide) (by rw [c3]; decide) (by decide) ?_
        refine lv_aload_n hx hb dX4_many_44 rfl (lv_at hl 0 rfl) ?_
        refine g_get (v := .int (nI R)) hx hb hts ixX4_many_X4 hown hK hP 0 rfl rfl 3 (by decide) lkX4_many_27 rfl dX4_many_45 ?_
        exact hret _ _ _ (by first | with_reducible rfl | (simp only [s_many, iF_f c1, iF_f c2, iF_t c3]; done) | contradiction) dX4_many_48
      ·
        refine lv_tableOut (tgt := 49) hx hb dX4_many_1 (sw_out3 c1 c2 c3) (by decide) ?_
        refine lv_bipush (v := (-2)) hx hb dX4_many_49 (by decide) ?_
        exact hret _ _ _ (by first | with_reducible rfl | (simp only [s_many, iF_f c1, iF_f c2, iF_f c3]; done) | contradiction) dX4_many_51

theorem ixX4_toldByBoy_X4 : ∀ w ∈ wsX40, w ∈ wsX4_toldByBoy := fun _ h => List.mem_cons_of_mem _ (List.mem_append_left _ (List.mem_append_right _ h))
theorem lkX4_toldByBoy_12 : Cond.fieldLink RX4 12 (TX4 0).1 (TX4 0).2.1 (TX4 0).2.2.1 ∈ wsX4_toldByBoy := List.mem_of_getElem? (i := 1) rfl
theorem ixX4_toldByBoy_X2 : ∀ w ∈ wsX20, w ∈ wsX4_toldByBoy := fun _ h => List.mem_cons_of_mem _ (List.mem_append_right _ h)
set_option maxHeartbeats 4000000 in
set_option maxRecDepth 100000 in
theorem kX4_toldByBoy (l : Launch) (G : Gl) (x : Nat) (st : Nat) (tr : Nat) (ra : Nat) (sa : Nat) (R : Nat) (tc : Int32) (fl : Int32) (ap : Nat) (ak : Nat) (ao : Nat) (M : Nat) (B : Nat) (U : Nat → Int32) (b : Nat) (hb4 : b < 4) : Wt l G yX4_toldByBoy wsX4_toldByBoy ({ frames := 1, cells := 0, slots := 0, locals := 21 } : Room) [.ref x, .int (nI b)] [(x, .inr (4, [.ref st, .ref tr, .ref ra, .int (nI R), .ref sa, .int tc, .int fl])), (st, .inr (2, [.ref ap, .ref ak, .ref ao, .int (nI M), .int (nI B)])), (ao, aI G 4 U)] [(x, .inr (4, [.ref st, .ref tr, .ref ra, .int (nI R), .ref sa, .int (lt1 tc (nI 1)), .int fl])), (st, .inr (2, [.ref ap, .ref ak, .ref ao, .int (nI M), .int (nI B)])), (ao, aI G 4 U)] (some (.int (U b))) := by
  refine Wt.ofI (cc := cX4_toldByBoy) (maxL := 2) (by decide) rfl (Nat.le_of_ble_eq_true rfl) ?_
  intro p e s m below meth c Q A ls hE hP hK hD hS hl hret
  obtain ⟨hx, hb, hml, hown, hts⟩ := id hE
  have hl : lv_has ls 2 [(0, .ref x), (1, .int (nI b))] := hl
  refine lv_aload_n hx hb dX4_toldByBoy_0 rfl (lv_at hl 0 rfl) ?_
  refine lv_iconst (v := nI 1) hx hb dX4_toldByBoy_1 (by decide) ?_
  refine wtV (As := [.int (nI 1)]) (rest := []) (ci := 4) (q0 := 0) hE (kX4_leaveTrace l G x st tr ra sa R tc fl (nI 1) ) (cwV 1 hts gX4_toldByBoy_X4_leaveTrace rfl rfl rfl (by decide +kernel) ⟨Nat.le_of_ble_eq_true rfl, Nat.le_of_ble_eq_true rfl⟩) hP hK hD hS [0] (by decide) rfl (Eq.trans (b := [x]) rfl rfl) (W1 := [(x, .inr (4, [.ref st, .ref tr, .ref ra, .int (nI R), .ref sa, .int (lt1 tc (nI 1)), .int fl])), (st, .inr (2, [.ref ap, .ref ak, .ref ao, .int (nI M), .int (nI B)])), (ao, aI G 4 U)]) rfl rfl rfl rfl hl.1 rfl (Nat.le_of_ble_eq_true rfl) dX4_toldByBoy_2 ⟨Nat.zero_le _, Nat.zero_le _⟩ (fun H locs hP hD hS => ?_)
  refine W.eq (g2 := F0 m 5 ls []) rfl ?_
  refine lv_aload_n hx hb dX4_toldByBoy_5 rfl (lv_at hl 0 rfl) ?_
  refine g_get (v := .ref st) hx hb hts ixX4_toldByBoy_X4 hown hK hP 0 rfl rfl 0 (by decide) lkX4_toldByBoy_12 rfl dX4_toldByBoy_6 ?_
  refine g_getN (v := .ref ao) hx hb hts ixX4_toldByBoy_X2 hown hK hP 1 rfl rfl 2 (by decide) nkX4_86 rfl dX4_toldByBoy_9 ?_
  refine lv_iload_n hx hb dX4_toldByBoy_12 rfl (lv_at hl 1 rfl) ?_
  refine n_ald hx hb hK hP 2 rfl (k := b) (by omega) (by decide) dX4_toldByBoy_13 ?_
  exact hret _ _ _ _ _ (by first | with_reducible rfl | (simp only []; done) | contradiction) (hP) hS dX4_toldByBoy_14

set_option maxHeartbeats 4000000 in
set_option maxRecDepth 100000 in
theorem kX4_toldByClever (l : Launch) (G : Gl) (x : Nat) (st : Nat) (tr : Nat) (ra : Nat) (sa : Nat) (R : Nat) (tc : Int32) (fl : Int32) (ap : Nat) (ak : Nat) (ao : Nat) (M : Nat) (B : Nat) (U : Nat → Int32) (b : Nat) (hb4 : b < 4) : Wt l G yX4_toldByClever wsX4_toldByClever ({ frames := 2, cells := 0, slots := 0, locals := 42 } : Room) [.ref x, .int (nI b)] [(x, .inr (4, [.ref st, .ref tr, .ref ra, .int (nI R), .ref sa, .int tc, .int fl])), (st, .inr (2, [.ref ap, .ref ak, .ref ao, .int (nI M), .int (nI B)])), (ao, aI G 4 U)] [(x, .inr (4, [.ref st, .ref tr, .ref ra, .int (nI R), .ref sa, .int (lt1 (lt1 tc (nI 2)) (nI 1)), .int fl])), (st, .inr (2, [.ref ap, .ref ak, .ref ao, .int (nI M), .int (nI B)])), (ao, aI G 4 U)] (some (.int (U b + nI 100))) := by
  refine Wt.ofI (cc := cX4_toldByClever) (maxL := 2) (by decide) rfl (Nat.le_of_ble_eq_true rfl) ?_
  intro p e s m below meth c Q A ls hE hP hK hD hS hl hret
  obtain ⟨hx, hb, hml, hown, hts⟩ := id hE
  have hl : lv_has ls 2 [(0, .ref x), (1, .int (nI b))] := hl
  refine lv_aload_n hx hb dX4_toldByClever_0 rfl (lv_at hl 0 rfl) ?_
  refine lv_iconst (v := nI 2) hx hb dX4_toldByClever_1 (by decide) ?_
  refine wtV (As := [.int (nI 2)]) (rest := []) (ci := 4) (q0 := 0) hE (kX4_leaveTrace l G x st tr ra sa R tc fl (nI 2) ) (cwV 1 hts gX4_toldByClever_X4_leaveTrace rfl rfl rfl (by decide +kernel) ⟨Nat.le_of_ble_eq_true rfl, Nat.le_of_ble_eq_true rfl⟩) hP hK hD hS [0] (by decide) rfl (Eq.trans (b := [x]) rfl rfl) (W1 := [(x, .inr (4, [.ref st, .ref tr, .ref ra, .int (nI R), .ref sa, .int (lt1 tc (nI 2)), .int fl])), (st, .inr (2, [.ref ap, .ref ak, .ref ao, .int (nI M), .int (nI B)])), (ao, aI G 4 U)]) rfl rfl rfl rfl hl.1 rfl (Nat.le_of_ble_eq_true rfl) dX4_toldByClever_2 ⟨Nat.zero_le _, Nat.zero_le _⟩ (fun H locs hP hD hS => ?_)
  refine W.eq (g2 := F0 m 5 ls []) rfl ?_
  refine lv_aload_n hx hb dX4_toldByClever_5 rfl (lv_at hl 0 rfl) ?_
  refine lv_iload_n hx hb dX4_toldByClever_6 rfl (lv_at hl 1 rfl) ?_
  refine wtV (As := [.int (nI b)]) (rest := []) (ci := 4) (q0 := 0) hE (kX4_toldByBoy l G x st tr ra sa R (lt1 tc (nI 2)) fl ap ak ao M B U b hb4) (cwV 1 hts gX4_toldByClever_X4_toldByBoy rfl rfl rfl (by decide +kernel) ⟨Nat.le_of_ble_eq_true rfl, Nat.le_of_ble_eq_true rfl⟩) hP hK hD hS [0, 1, 2] (by decide) rfl (Eq.trans (b := [x, st, ao]) rfl rfl) (W1 := [(x, .inr (4, [.ref st, .ref tr, .ref ra, .int (nI R), .ref sa, .int (lt1 (lt1 tc (nI 2)) (nI 1)), .int fl])), (st, .inr (2, [.ref ap, .ref ak, .ref ao, .int (nI M), .int (nI B)])), (ao, aI G 4 U)]) rfl rfl rfl rfl hl.1 rfl (Nat.le_of_ble_eq_true rfl) dX4_toldByClever_7 ⟨Nat.zero_le _, Nat.zero_le _⟩ (fun H locs hP hD hS => ?_)
  refine W.eq (g2 := F0 m 10 ls [.int (U b)]) rfl ?_
  refine lv_bipush (v := nI 100) hx hb dX4_toldByClever_10 (by decide) ?_
  refine lv_iadd hx hb dX4_toldByClever_12 ?_
  exact hret _ _ _ _ _ (by first | with_reducible rfl | (simp only []; done) | contradiction) (hP) hS dX4_toldByClever_13

set_option maxHeartbeats 4000000 in
set_option maxRecDepth 100000 in
theorem kX4_toldByDunce (l : Launch) (G : Gl) (x : Nat) (st : Nat) (tr : Nat) (ra : Nat) (sa : Nat) (R : Nat) (tc : Int32) (fl : Int32) (ap : Nat) (ak : Nat) (ao : Nat) (M : Nat) (B : Nat) (U : Nat → Int32) (b : Nat) (hb4 : b < 4) : Wt l G yX4_toldByDunce wsX4_toldByDunce ({ frames := 3, cells := 0, slots := 0, locals := 63 } : Room) [.ref x, .int (nI b)] [(x, .inr (4, [.ref st, .ref tr, .ref ra, .int (nI R), .ref sa, .int tc, .int fl])), (st, .inr (2, [.ref ap, .ref ak, .ref ao, .int (nI M), .int (nI B)])), (ao, aI G 4 U)] [(x, .inr (4, [.ref st, .ref tr, .ref ra, .int (nI R), .ref sa, .int (lt1 (lt1 (lt1 (lt1 tc (nI 3)) (nI 2)) (nI 1)) (nI 1)), .int fl])), (st, .inr (2, [.ref ap, .ref ak, .ref ao, .int (nI M), .int (nI B)])), (ao, aI G 4 U)] (some (.int ((U b + nI 100) + U b))) := by
  refine Wt.ofI (cc := cX4_toldByDunce) (maxL := 3) (by decide) rfl (Nat.le_of_ble_eq_true rfl) ?_
  intro p e s m below meth c Q A ls hE hP hK hD hS hl hret
  obtain ⟨hx, hb, hml, hown, hts⟩ := id hE
  have hl : lv_has ls 3 [(0, .ref x), (1, .int (nI b))] := hl
  refine lv_aload_n hx hb dX4_toldByDunce_0 rfl (lv_at hl 0 rfl) ?_
  refine lv_iconst (v := nI 3) hx hb dX4_toldByDunce_1 (by decide) ?_
  refine wtV (As := [.int (nI 3)]) (rest := []) (ci := 4) (q0 := 0) hE (kX4_leaveTrace l G x st tr ra sa R tc fl (nI 3) ) (cwV 1 hts gX4_toldByDunce_X4_leaveTrace rfl rfl rfl (by decide +kernel) ⟨Nat.le_of_ble_eq_true rfl, Nat.le_of_ble_eq_true rfl⟩) hP hK hD hS [0] (by decide) rfl (Eq.trans (b := [x]) rfl rfl) (W1 := [(x, .inr (4, [.ref st, .ref tr, .ref ra, .int (nI R), .ref sa, .int (lt1 tc (nI 3)), .int fl])), (st, .inr (2, [.ref ap, .ref ak, .ref ao, .int (nI M), .int (nI B)])), (ao, aI G 4 U)]) rfl rfl rfl rfl hl.1 rfl (Nat.le_of_ble_eq_true rfl) dX4_toldByDunce_2 ⟨Nat.zero_le _, Nat.zero_le _⟩ (fun H locs hP hD hS => ?_)
  refine W.eq (g2 := F0 m 5 ls []) rfl ?_
  refine lv_aload_n hx hb dX4_toldByDunce_5 rfl (lv_at hl 0 rfl) ?_
  refine lv_iload_n hx hb dX4_toldByDunce_6 rfl (lv_at hl 1 rfl) ?_
  refine wtV (As := [.int (nI b)]) (rest := []) (ci := 4) (q0 := 0) hE (kX4_toldByClever l G x st tr ra sa R (lt1 tc (nI 3)) fl ap ak ao M B U b hb4) (cwV 1 hts gX4_toldByDunce_X4_toldByClever rfl rfl rfl (by decide +kernel) ⟨Nat.le_of_ble_eq_true rfl, Nat.le_of_ble_eq_true rfl⟩) hP hK hD hS [0, 1, 2] (by decide) rfl (Eq.trans (b := [x, st, ao]) rfl rfl) (W1 := [(x, .inr (4, [.ref st, .ref tr, .ref ra, .int (nI R), .ref sa, .int (lt1 (lt1 (lt1 tc (nI 3)) (nI 2)) (nI 1)), .int fl])), (st, .inr (2, [.ref ap, .ref ak, .ref ao, .int (nI M), .int (nI B)])), (ao, aI G 4 U)]) rfl rfl rfl rfl hl.1 rfl (Nat.le_of_ble_eq_true rfl) dX4_toldByDunce_7 ⟨Nat.zero_le _, Nat.zero_le _⟩ (fun H locs hP hD hS => ?_)
  refine W.eq (g2 := F0 m 10 ls [.int (U b + nI 100)]) rfl ?_
  refine lv_istore_n (lv' := [(2, .int (U b + nI 100)), (0, .ref x), (1, .int (nI b))]) hx hb dX4_toldByDunce_10 rfl hl (by decide) rfl (fun ls hl => ?_)
  refine lv_iload_n hx hb dX4_toldByDunce_11 rfl (lv_at hl 0 rfl) ?_
  refine lv_aload_n hx hb dX4_toldByDunce_12 rfl (lv_at hl 1 rfl) ?_
  refine lv_iload_n hx hb dX4_toldByDunce_13 rfl (lv_at hl 2 rfl) ?_
  refine wtV (As := [.int (nI b)]) (rest := [.int (U b + nI 100)]) (ci := 4) (q0 := 0) hE (kX4_toldByBoy l G x st tr ra sa R (lt1 (lt1 (lt1 tc (nI 3)) (nI 2)) (nI 1)) fl ap ak ao M B U b hb4) (cwV 1 hts gX4_toldByDunce_X4_toldByBoy rfl rfl rfl (by decide +kernel) ⟨Nat.le_of_ble_eq_true rfl, Nat.le_of_ble_eq_true rfl⟩) hP hK hD hS [0, 1, 2] (by decide) rfl (Eq.trans (b := [x, st, ao]) rfl rfl) (W1 := [(x, .inr (4, [.ref st, .ref tr, .ref ra, .int (nI R), .ref sa, .int (lt1 (lt1 (lt1 (lt1 tc (nI 3)) (nI 2)) (nI 1)) (nI 1)), .int fl])), (st, .inr (2, [.ref ap, .ref ak, .ref ao, .int (nI M), .int (nI B)])), (ao, aI G 4 U)]) rfl rfl rfl rfl hl.1 rfl (Nat.le_of_ble_eq_true rfl) dX4_toldByDunce_14 ⟨Nat.zero_le _, Nat.zero_le _⟩ (fun H locs hP hD hS => ?_)
  refine W.eq (g2 := F0 m 17 ls [.int (U b), .int (U b + nI 100)]) rfl ?_
  refine lv_iadd hx hb dX4_toldByDunce_17 ?_
  exact hret _ _ _ _ _ (by first | with_reducible rfl | (simp only []; done) | contradiction) (hP) hS dX4_toldByDunce_18

theorem ixX4_tell_X4 : ∀ w ∈ wsX40, w ∈ wsX4_tell := fun _ h => List.mem_cons_of_mem _ (List.mem_append_left _ (List.mem_append_right _ h))
theorem lkX4_tell_12 : Cond.fieldLink RX4 12 (TX4 0).1 (TX4 0).2.1 (TX4 0).2.2.1 ∈ wsX4_tell := List.mem_of_getElem? (i := 1) rfl
theorem ixX4_tell_X2 : ∀ w ∈ wsX20, w ∈ wsX4_tell := fun _ h => List.mem_cons_of_mem _ (List.mem_append_right _ h)
set_option maxHeartbeats 4000000 in
set_option maxRecDepth 100000 in
theorem kX4_tell (l : Launch) (G : Gl) (x : Nat) (st : Nat) (tr : Nat) (ra : Nat) (sa : Nat) (R : Nat) (tc : Int32) (fl : Int32) (ap : Nat) (ak : Nat) (ao : Nat) (M : Nat) (B : Nat) (K : Nat → Int32) (U : Nat → Int32) (b : Int32) (hB : B ≤ 4) : Wt l G yX4_tell wsX4_tell ({ frames := 4, cells := 0, slots := 0, locals := 85 } : Room) [.ref x, .int b] [(x, .inr (4, [.ref st, .ref tr, .ref ra, .int (nI R), .ref sa, .int tc, .int fl])), (st, .inr (2, [.ref ap, .ref ak, .ref ao, .int (nI M), .int (nI B)])), (ak, aI G 4 K), (ao, aI G 4 U)] [(x, .inr (4, [.ref st, .ref tr, .ref ra, .int (nI R), .ref sa, .int (t_tell B K tc b), .int fl])), (st, .inr (2, [.ref ap, .ref ak, .ref ao, .int (nI M), .int (nI B)])), (ak, aI G 4 K), (ao, aI G 4 U)] (some (.int (s_tell B K U b))) := by
  refine Wt.ofI (cc := cX4_tell) (maxL := 2) (by decide) rfl (Nat.le_of_ble_eq_true rfl) ?_
  intro p e s m below meth c Q A ls hE hP hK hD hS hl hret
  obtain ⟨hx, hb, hml, hown, hts⟩ := id hE
  have hl : lv_has ls 2 [(0, .ref x), (1, .int b)] := hl
  refine lv_aload_n hx hb dX4_tell_0 rfl (lv_at hl 0 rfl) ?_
  refine g_get (v := .ref st) hx hb hts ixX4_tell_X4 hown hK hP 0 rfl rfl 0 (by decide) lkX4_tell_12 rfl dX4_tell_1 ?_
  refine lv_iload_n hx hb dX4_tell_4 rfl (lv_at hl 1 rfl) ?_
  refine rdV (As := [.int b]) (rest := []) (ci := 2) (q0 := 1) hE (kX2_hasBoy l G st ap ak ao M B b hB) (cwV 1 hts gX4_tell_X2_hasBoy rfl rfl rfl (by decide +kernel) ⟨Nat.le_of_ble_eq_true rfl, Nat.le_of_ble_eq_true rfl⟩) hP hK [1] rfl rfl rfl rfl hl.1 rfl (Nat.le_of_ble_eq_true rfl) dX4_tell_5 ⟨Nat.zero_le _, Nat.zero_le _⟩ ?_
  refine W.eq (g2 := F0 m 8 ls [.int (bI (vp_in b B))]) rfl ?_
  refine bz_ne (tgt := 13) hx hb dX4_tell_8 (by decide) (fun c1 => ?_) (fun c1 => ?_)
  ·
    obtain ⟨jb, hjb, rfl⟩ := vp_in_of c1 (by omega)
    refine lv_aload_n hx hb dX4_tell_13 rfl (lv_at hl 0 rfl) ?_
    refine g_get (v := .ref st) hx hb hts ixX4_tell_X4 hown hK hP 0 rfl rfl 0 (by decide) lkX4_tell_12 rfl dX4_tell_14 ?_
    refine g_getN (v := .ref ak) hx hb hts ixX4_tell_X2 hown hK hP 1 rfl rfl 1 (by decide) nkX4_82 rfl dX4_tell_17 ?_
    refine lv_iload_n hx hb dX4_tell_20 rfl (lv_at hl 1 rfl) ?_
    refine n_ald hx hb hK hP 2 rfl (k := jb) (by omega) (by decide) dX4_tell_21 ?_
    by_cases c2 : K jb = 1
    ·
      refine lv_lookup (tgt := 48) (off := 26) hx hb dX4_tell_22 (by decide) (by rw [c2]; decide) (by decide) ?_
      refine lv_aload_n hx hb dX4_tell_48 rfl (lv_at hl 0 rfl) ?_
      refine lv_iload_n hx hb dX4_tell_49 rfl (lv_at hl 1 rfl) ?_
      refine wtV (As := [.int (nI jb)]) (rest := []) (ci := 4) (q0 := 0) hE (kX4_toldByClever l G x st tr ra sa R tc fl ap ak ao M B U jb (by first | omega | assumption)) (cwV 1 hts gX4_tell_X4_toldByClever rfl rfl rfl (by decide +kernel) ⟨Nat.le_of_ble_eq_true rfl, Nat.le_of_ble_eq_true rfl⟩) hP hK hD hS [0, 1, 3] (by decide) rfl (Eq.trans (b := [x, st, ao]) rfl rfl) (W1 := [(x, .inr (4, [.ref st, .ref tr, .ref ra, .int (nI R), .ref sa, .int (lt1 (lt1 tc (nI 2)) (nI 1)), .int fl])), (st, .inr (2, [.ref ap, .ref ak, .ref ao, .int (nI M), .int (nI B)])), (ak, aI G 4 K), (ao, aI G 4 U)]) rfl rfl rfl rfl hl.1 rfl (Nat.le_of_ble_eq_true rfl) dX4_tell_50 ⟨Nat.zero_le _, Nat.zero_le _⟩ (fun H locs hP hD hS => ?_)
      refine W.eq (g2 := F0 m 53 ls [.int (U jb + nI 100)]) rfl ?_
      exact hret _ _ _ _ _ (by first | with_reducible rfl | (simp only [s_tell, t_tell, tel, trc, iF_t c1, iF_t c2, tn_nI (show jb < 2 ^ 31 by omega)]; done) | contradiction) (by first | with_reducible exact hP | (simp only [s_tell, t_tell, tel, trc, iF_t c1, iF_t c2, tn_nI (show jb < 2 ^ 31 by omega)]; with_reducible exact hP) | contradiction | (simp only [s_tell, t_tell, tel, trc, iF_t c1, iF_t c2, tn_nI (show jb < 2 ^ 31 by omega)]; exact hP) | exact hP) hS dX4_tell_53
    ·
      by_cases c3 : K jb = 2
      ·
        refine lv_lookup (tgt := 54) (off := 32) hx hb dX4_tell_22 (by decide) (by rw [c3]; decide) (by decide) ?_
        refine lv_aload_n hx hb dX4_tell_54 rfl (lv_at hl 0 rfl) ?_
        refine lv_iload_n hx hb dX4_tell_55 rfl (lv_at hl 1 rfl) ?_
        refine wtV (As := [.int (nI jb)]) (rest := []) (ci := 4) (q0 := 0) hE (kX4_toldByDunce l G x st tr ra sa R tc fl ap ak ao M B U jb (by first | omega | assumption)) (cwV 1 hts gX4_tell_X4_toldByDunce rfl rfl rfl (by decide +kernel) ⟨Nat.le_of_ble_eq_true rfl, Nat.le_of_ble_eq_true rfl⟩) hP hK hD hS [0, 1, 3] (by decide) rfl (Eq.trans (b := [x, st, ao]) rfl rfl) (W1 := [(x, .inr (4, [.ref st, .ref tr, .ref ra, .int (nI R), .ref sa, .int (lt1 (lt1 (lt1 (lt1 tc (nI 3)) (nI 2)) (nI 1)) (nI 1)), .int fl])), (st, .inr (2, [.ref ap, .ref ak, .ref ao, .int (nI M), .int (nI B)])), (ak, aI G 4 K), (ao, aI G 4 U)]) rfl rfl rfl rfl hl.1 rfl (Nat.le_of_ble_eq_true rfl) dX4_tell_56 ⟨Nat.zero_le _, Nat.zero_le _⟩ (fun H locs hP hD hS => ?_)
        refine W.eq (g2 := F0 m 59 ls [.int ((U jb + nI 100) + U jb)]) rfl ?_
        exact hret _ _ _ _ _ (by first | with_reducible rfl | (simp only [s_tell, t_tell, tel, trc, iF_t c1, iF_f c2, iF_t c3, tn_nI (show jb < 2 ^ 31 by omega)]; done) | contradiction) (by first | with_reducible exact hP | (simp only [s_tell, t_tell, tel, trc, iF_t c1, iF_f c2, iF_t c3, tn_nI (show jb < 2 ^ 31 by omega)]; with_reducible exact hP) | contradiction | (simp only [s_tell, t_tell, tel, trc, iF_t c1, iF_f c2, iF_t c3, tn_nI (show jb < 2 ^ 31 by omega)]; exact hP) | exact hP) hS dX4_tell_59
      ·
        refine lv_lookup (tgt := 60) (off := 38) hx hb dX4_tell_22 (by decide) (by rw [lv_osw (k := 1) c2 (by decide), lv_osw (k := 2) c3 (by decide)]; rfl) (by decide) ?_
        refine lv_aload_n hx hb dX4_tell_60 rfl (lv_at hl 0 rfl) ?_
        refine lv_iload_n hx hb dX4_tell_61 rfl (lv_at hl 1 rfl) ?_
        refine wtV (As := [.int (nI jb)]) (rest := []) (ci := 4) (q0 := 0) hE (kX4_toldByBoy l G x st tr ra sa R tc fl ap ak ao M B U jb (by first | omega | assumption)) (cwV 1 hts gX4_tell_X4_toldByBoy rfl rfl rfl (by decide +kernel) ⟨Nat.le_of_ble_eq_true rfl, Nat.le_of_ble_eq_true rfl⟩) hP hK hD hS [0, 1, 3] (by decide) rfl (Eq.trans (b := [x, st, ao]) rfl rfl) (W1 := [(x, .inr (4, [.ref st, .ref tr, .ref ra, .int (nI R), .ref sa, .int (lt1 tc (nI 1)), .int fl])), (st, .inr (2, [.ref ap, .ref ak, .ref ao, .int (nI M), .int (nI B)])), (ak, aI G 4 K), (ao, aI G 4 U)]) rfl rfl rfl rfl hl.1 rfl (Nat.le_of_ble_eq_true rfl) dX4_tell_62 ⟨Nat.zero_le _, Nat.zero_le _⟩ (fun H locs hP hD hS => ?_)
        refine W.eq (g2 := F0 m 65 ls [.int (U jb)]) rfl ?_
        exact hret _ _ _ _ _ (by first | with_reducible rfl | (simp only [s_tell, t_tell, tel, trc, iF_t c1, iF_f c2, iF_f c3, tn_nI (show jb < 2 ^ 31 by omega)]; done) | contradiction) (by first | with_reducible exact hP | (simp only [s_tell, t_tell, tel, trc, iF_t c1, iF_f c2, iF_f c3, tn_nI (show jb < 2 ^ 31 by omega)]; with_reducible exact hP) | contradiction | (simp only [s_tell, t_tell, tel, trc, iF_t c1, iF_f c2, iF_f c3, tn_nI (show jb < 2 ^ 31 by omega)]; exact hP) | exact hP) hS dX4_tell_65
  ·
    refine lv_iconst (v := (-1)) hx hb dX4_tell_11 (by decide) ?_
    exact hret _ _ _ _ _ (by first | with_reducible rfl | (simp only [s_tell, t_tell, tel, trc, iF_f c1]; done) | contradiction) (by first | with_reducible exact hP | (simp only [s_tell, t_tell, tel, trc, iF_f c1]; with_reducible exact hP) | contradiction | (simp only [s_tell, t_tell, tel, trc, iF_f c1]; exact hP) | exact hP) hS dX4_tell_12

theorem ixX4_call_X4 : ∀ w ∈ wsX40, w ∈ wsX4_call := fun _ h => List.mem_cons_of_mem _ (List.mem_append_left _ (List.mem_append_right _ h))
theorem lkX4_call_12 : Cond.fieldLink RX4 12 (TX4 0).1 (TX4 0).2.1 (TX4 0).2.2.1 ∈ wsX4_call := List.mem_of_getElem? (i := 1) rfl
theorem ixX4_call_X2 : ∀ w ∈ wsX20, w ∈ wsX4_call := fun _ h => List.mem_cons_of_mem _ (List.mem_append_right _ h)
set_option maxHeartbeats 4000000 in
set_option maxRecDepth 100000 in
theorem kX4_call (l : Launch) (G : Gl) (x : Nat) (st : Nat) (tr : Nat) (ra : Nat) (sa : Nat) (R : Nat) (tc : Int32) (fl : Int32) (ap : Nat) (ak : Nat) (ao : Nat) (M : Nat) (B : Nat) (K : Nat → Int32) (b : Int32) (hB : B ≤ 4) : Wt l G yX4_call wsX4_call ({ frames := 1, cells := 0, slots := 0, locals := 21 } : Room) [.ref x, .int b] [(x, .inr (4, [.ref st, .ref tr, .ref ra, .int (nI R), .ref sa, .int tc, .int fl])), (st, .inr (2, [.ref ap, .ref ak, .ref ao, .int (nI M), .int (nI B)])), (ak, aI G 4 K)] [(x, .inr (4, [.ref st, .ref tr, .ref ra, .int (nI R), .ref sa, .int (t_call B K tc b), .int fl])), (st, .inr (2, [.ref ap, .ref ak, .ref ao, .int (nI M), .int (nI B)])), (ak, aI G 4 K)] (some (.int (s_call B K b))) := by
  refine Wt.ofI (cc := cX4_call) (maxL := 2) (by decide) rfl (Nat.le_of_ble_eq_true rfl) ?_
  intro p e s m below meth c Q A ls hE hP hK hD hS hl hret
  obtain ⟨hx, hb, hml, hown, hts⟩ := id hE
  have hl : lv_has ls 2 [(0, .ref x), (1, .int b)] := hl
  refine lv_aload_n hx hb dX4_call_0 rfl (lv_at hl 0 rfl) ?_
  refine g_get (v := .ref st) hx hb hts ixX4_call_X4 hown hK hP 0 rfl rfl 0 (by decide) lkX4_call_12 rfl dX4_call_1 ?_
  refine lv_iload_n hx hb dX4_call_4 rfl (lv_at hl 1 rfl) ?_
  refine rdV (As := [.int b]) (rest := []) (ci := 2) (q0 := 1) hE (kX2_hasBoy l G st ap ak ao M B b hB) (cwV 1 hts gX4_call_X2_hasBoy rfl rfl rfl (by decide +kernel) ⟨Nat.le_of_ble_eq_true rfl, Nat.le_of_ble_eq_true rfl⟩) hP hK [1] rfl rfl rfl rfl hl.1 rfl (Nat.le_of_ble_eq_true rfl) dX4_call_5 ⟨Nat.zero_le _, Nat.zero_le _⟩ ?_
  refine W.eq (g2 := F0 m 8 ls [.int (bI (vp_in b B))]) rfl ?_
  refine bz_ne (tgt := 13) hx hb dX4_call_8 (by decide) (fun c1 => ?_) (fun c1 => ?_)
  ·
    obtain ⟨jb, hjb, rfl⟩ := vp_in_of c1 (by omega)
    refine lv_aload_n hx hb dX4_call_13 rfl (lv_at hl 0 rfl) ?_
    refine g_get (v := .ref st) hx hb hts ixX4_call_X4 hown hK hP 0 rfl rfl 0 (by decide) lkX4_call_12 rfl dX4_call_14 ?_
    refine g_getN (v := .ref ak) hx hb hts ixX4_call_X2 hown hK hP 1 rfl rfl 1 (by decide) nkX4_82 rfl dX4_call_17 ?_
    refine lv_iload_n hx hb dX4_call_20 rfl (lv_at hl 1 rfl) ?_
    refine n_ald hx hb hK hP 2 rfl (k := jb) (by omega) (by decide) dX4_call_21 ?_
    refine lv_iconst (v := nI 2) hx hb dX4_call_22 (by decide) ?_
    refine lv_icmp_ne (tgt := 34) hx hb dX4_call_23 (by decide) (fun c2 => ?_) (fun c2 => ?_)
    ·
      refine lv_aload_n hx hb dX4_call_34 rfl (lv_at hl 0 rfl) ?_
      refine lv_iconst (v := nI 4) hx hb dX4_call_35 (by decide) ?_
      refine wtV (As := [.int (nI 4)]) (rest := []) (ci := 4) (q0 := 0) hE (kX4_leaveTrace l G x st tr ra sa R tc fl (nI 4) ) (cwV 1 hts gX4_call_X4_leaveTrace rfl rfl rfl (by decide +kernel) ⟨Nat.le_of_ble_eq_true rfl, Nat.le_of_ble_eq_true rfl⟩) hP hK hD hS [0] (by decide) rfl (Eq.trans (b := [x]) rfl rfl) (W1 := [(x, .inr (4, [.ref st, .ref tr, .ref ra, .int (nI R), .ref sa, .int (lt1 tc (nI 4)), .int fl])), (st, .inr (2, [.ref ap, .ref ak, .ref ao, .int (nI M), .int (nI B)])), (ak, aI G 4 K)]) rfl rfl rfl rfl hl.1 rfl (Nat.le_of_ble_eq_true rfl) dX4_call_36 ⟨Nat.zero_le _, Nat.zero_le _⟩ (fun H locs hP hD hS => ?_)
      refine W.eq (g2 := F0 m 39 ls []) rfl ?_
      refine lv_iload_n hx hb dX4_call_39 rfl (lv_at hl 1 rfl) ?_
      exact hret _ _ _ _ _ (by first | with_reducible rfl | (simp only [s_call, t_call, iF_t c1, iF_f c2, iF_f (show ¬ K jb = 2 from c2), tn_nI (show jb < 2 ^ 31 by omega)]; done) | contradiction) (by first | with_reducible exact hP | (simp only [s_call, t_call, iF_t c1, iF_f c2, iF_f (show ¬ K jb = 2 from c2), tn_nI (show jb < 2 ^ 31 by omega)]; with_reducible exact hP) | contradiction | (simp only [s_call, t_call, iF_t c1, iF_f c2, iF_f (show ¬ K jb = 2 from c2), tn_nI (show jb < 2 ^ 31 by omega)]; exact hP) | exact hP) hS dX4_call_40
    ·
      refine lv_aload_n hx hb dX4_call_26 rfl (lv_at hl 0 rfl) ?_
      refine lv_iconst (v := nI 5) hx hb dX4_call_27 (by decide) ?_
      refine wtV (As := [.int (nI 5)]) (rest := []) (ci := 4) (q0 := 0) hE (kX4_leaveTrace l G x st tr ra sa R tc fl (nI 5) ) (cwV 1 hts gX4_call_X4_leaveTrace rfl rfl rfl (by decide +kernel) ⟨Nat.le_of_ble_eq_true rfl, Nat.le_of_ble_eq_true rfl⟩) hP hK hD hS [0] (by decide) rfl (Eq.trans (b := [x]) rfl rfl) (W1 := [(x, .inr (4, [.ref st, .ref tr, .ref ra, .int (nI R), .ref sa, .int (lt1 tc (nI 5)), .int fl])), (st, .inr (2, [.ref ap, .ref ak, .ref ao, .int (nI M), .int (nI B)])), (ak, aI G 4 K)]) rfl rfl rfl rfl hl.1 rfl (Nat.le_of_ble_eq_true rfl) dX4_call_28 ⟨Nat.zero_le _, Nat.zero_le _⟩ (fun H locs hP hD hS => ?_)
      refine W.eq (g2 := F0 m 31 ls []) rfl ?_
      refine lv_bipush (v := nI 20) hx hb dX4_call_31 (by decide) ?_
      exact hret _ _ _ _ _ (by first | with_reducible rfl | (simp only [s_call, t_call, iF_t c1, iF_t c2, iF_t (show K jb = 2 from c2), tn_nI (show jb < 2 ^ 31 by omega)]; done) | contradiction) (by first | with_reducible exact hP | (simp only [s_call, t_call, iF_t c1, iF_t c2, iF_t (show K jb = 2 from c2), tn_nI (show jb < 2 ^ 31 by omega)]; with_reducible exact hP) | contradiction | (simp only [s_call, t_call, iF_t c1, iF_t c2, iF_t (show K jb = 2 from c2), tn_nI (show jb < 2 ^ 31 by omega)]; exact hP) | exact hP) hS dX4_call_33
  ·
    refine lv_iconst (v := (-1)) hx hb dX4_call_11 (by decide) ?_
    exact hret _ _ _ _ _ (by first | with_reducible rfl | (simp only [s_call, t_call, iF_f c1]; done) | contradiction) (by first | with_reducible exact hP | (simp only [s_call, t_call, iF_f c1]; with_reducible exact hP) | contradiction | (simp only [s_call, t_call, iF_f c1]; exact hP) | exact hP) hS dX4_call_12

theorem ixX4_as_X4 : ∀ w ∈ wsX40, w ∈ wsX4_as := fun _ h => List.mem_cons_of_mem _ (List.mem_append_left _ (List.mem_append_right _ h))
theorem lkX4_as_12 : Cond.fieldLink RX4 12 (TX4 0).1 (TX4 0).2.1 (TX4 0).2.2.1 ∈ wsX4_as := List.mem_of_getElem? (i := 1) rfl
theorem ixX4_as_X2 : ∀ w ∈ wsX20, w ∈ wsX4_as := fun _ h => List.mem_cons_of_mem _ (List.mem_append_right _ h)
theorem lkX4_as_40 : Cond.fieldLink RX4 40 (TX4 6).1 (TX4 6).2.1 (TX4 6).2.2.1 ∈ wsX4_as := List.mem_of_getElem? (i := 2) rfl
set_option maxHeartbeats 4000000 in
set_option maxRecDepth 100000 in
theorem kX4_as (l : Launch) (G : Gl) (x : Nat) (st : Nat) (tr : Nat) (ra : Nat) (sa : Nat) (R : Nat) (tc : Int32) (fl : Int32) (ap : Nat) (ak : Nat) (ao : Nat) (M : Nat) (B : Nat) (K : Nat → Int32) (b : Int32) (k : Int32) (hB : B ≤ 4) : Wt l G yX4_as wsX4_as ({ frames := 1, cells := 0, slots := 0, locals := 21 } : Room) [.ref x, .int b, .int k] [(x, .inr (4, [.ref st, .ref tr, .ref ra, .int (nI R), .ref sa, .int tc, .int fl])), (st, .inr (2, [.ref ap, .ref ak, .ref ao, .int (nI M), .int (nI B)])), (ak, aI G 4 K)] [(x, .inr (4, [.ref st, .ref tr, .ref ra, .int (nI R), .ref sa, .int tc, .int (f_as B K b k)])), (st, .inr (2, [.ref ap, .ref ak, .ref ao, .int (nI M), .int (nI B)])), (ak, aI G 4 K)] (some (.int (s_as B K b k))) := by
  refine Wt.ofI (cc := cX4_as) (maxL := 3) (by decide) rfl (Nat.le_of_ble_eq_true rfl) ?_
  intro p e s m below meth c Q A ls hE hP hK hD hS hl hret
  obtain ⟨hx, hb, hml, hown, hts⟩ := id hE
  have hl : lv_has ls 3 [(0, .ref x), (1, .int b), (2, .int k)] := hl
  refine lv_aload_n hx hb dX4_as_0 rfl (lv_at hl 0 rfl) ?_
  refine g_get (v := .ref st) hx hb hts ixX4_as_X4 hown hK hP 0 rfl rfl 0 (by decide) lkX4_as_12 rfl dX4_as_1 ?_
  refine lv_iload_n hx hb dX4_as_4 rfl (lv_at hl 1 rfl) ?_
  refine rdV (As := [.int b]) (rest := []) (ci := 2) (q0 := 1) hE (kX2_hasBoy l G st ap ak ao M B b hB) (cwV 1 hts gX4_as_X2_hasBoy rfl rfl rfl (by decide +kernel) ⟨Nat.le_of_ble_eq_true rfl, Nat.le_of_ble_eq_true rfl⟩) hP hK [1] rfl rfl rfl rfl hl.1 rfl (Nat.le_of_ble_eq_true rfl) dX4_as_5 ⟨Nat.zero_le _, Nat.zero_le _⟩ ?_
  refine W.eq (g2 := F0 m 8 ls [.int (bI (vp_in b B))]) rfl ?_
  refine bz_ne (tgt := 17) hx hb dX4_as_8 (by decide) (fun c1 => ?_) (fun c1 => ?_)
  ·
    obtain ⟨jb, hjb, rfl⟩ := vp_in_of c1 (by omega)
    refine lv_iload_n hx hb dX4_as_17 rfl (lv_at hl 2 rfl) ?_
    refine lv_iconst (v := nI 2) hx hb dX4_as_18 (by decide) ?_
    refine rdS (As := [.int k, .int (nI 2)]) (rest := []) hE (kX4_isWithin l G k 2 (by first | omega | assumption)) (va_cwS 2 hts gX4_as_X4_isWithin rfl rfl rfl (by decide +kernel) ⟨Nat.le_of_ble_eq_true rfl, Nat.le_of_ble_eq_true rfl⟩) hP hK [] rfl rfl hl.1 rfl (Nat.le_of_ble_eq_true rfl) dX4_as_19 ⟨Nat.zero_le _, Nat.zero_le _⟩ ?_
    refine W.eq (g2 := F0 m 22 ls [.int (bI (vp_in k (2 + 1)))]) rfl ?_
    refine bz_ne (tgt := 32) hx hb dX4_as_22 (by decide) (fun c2 => ?_) (fun c2 => ?_)
    ·
      refine lv_iload_n hx hb dX4_as_32 rfl (lv_at hl 2 rfl) ?_
      refine lv_aload_n hx hb dX4_as_33 rfl (lv_at hl 0 rfl) ?_
      refine g_get (v := .ref st) hx hb hts ixX4_as_X4 hown hK hP 0 rfl rfl 0 (by decide) lkX4_as_12 rfl dX4_as_34 ?_
      refine g_getN (v := .ref ak) hx hb hts ixX4_as_X2 hown hK hP 1 rfl rfl 1 (by decide) nkX4_82 rfl dX4_as_37 ?_
      refine lv_iload_n hx hb dX4_as_40 rfl (lv_at hl 1 rfl) ?_
      refine n_ald hx hb hK hP 2 rfl (k := jb) (by omega) (by decide) dX4_as_41 ?_
      refine lv_icmp_le (tgt := 51) hx hb dX4_as_42 (by decide) (fun c3 => ?_) (fun c3 => ?_)
      ·
        refine lv_aload_n hx hb dX4_as_51 rfl (lv_at hl 0 rfl) ?_
        refine lv_iconst (v := nI 0) hx hb dX4_as_52 (by decide) ?_
        refine g_put (v := (nI 0)) hx hb hts ixX4_as_X4 tyX4 tyX4_ok nmX4 hown hK hP hD hS 0 rfl rfl 6 (by decide) lkX4_as_40 rfl rfl (Nat.le_of_ble_eq_true rfl) dX4_as_53 (fun H locs hP hD hS => ?_)
        have hP : va_P G.1 vwCl [(x, .inr (4, [.ref st, .ref tr, .ref ra, .int (nI R), .ref sa, .int tc, .int (nI 0)])), (st, .inr (2, [.ref ap, .ref ak, .ref ao, .int (nI M), .int (nI B)])), (ak, aI G 4 K)] H := hP
        have hD : va_D A [(x, .inr (4, [.ref st, .ref tr, .ref ra, .int (nI R), .ref sa, .int tc, .int (nI 0)])), (st, .inr (2, [.ref ap, .ref ak, .ref ao, .int (nI M), .int (nI B)])), (ak, aI G 4 K)] := hD
        refine lv_iconst (v := nI 1) hx hb dX4_as_56 (by decide) ?_
        exact hret _ _ _ _ _ (by first | with_reducible rfl | (simp only [s_as, f_as, iF_t c1, iF_t c2, iF_t c3, iF_f (i32_le c3), tn_nI (show jb < 2 ^ 31 by omega)]; done) | contradiction) (by first | with_reducible exact hP | (simp only [s_as, f_as, iF_t c1, iF_t c2, iF_t c3, iF_f (i32_le c3), tn_nI (show jb < 2 ^ 31 by omega)]; with_reducible exact hP) | contradiction | (simp only [s_as, f_as, iF_t c1, iF_t c2, iF_t c3, iF_f (i32_le c3), tn_nI (show jb < 2 ^ 31 by omega)]; exact hP) | exact hP) hS dX4_as_57
      ·
        refine lv_aload_n hx hb dX4_as_45 rfl (lv_at hl 0 rfl) ?_
        refine lv_iconst (v := nI 2) hx hb dX4_as_46 (by decide) ?_
        refine wtV (As := [.int (nI 2)]) (rest := []) (ci := 4) (q0 := 0) hE (kX4_faulted l G x st tr ra sa R tc fl (nI 2) ) (cwV 1 hts gX4_as_X4_faulted rfl rfl rfl (by decide +kernel) ⟨Nat.le_of_ble_eq_true rfl, Nat.le_of_ble_eq_true rfl⟩) hP hK hD hS [0] (by decide) rfl (Eq.trans (b := [x]) rfl rfl) (W1 := [(x, .inr (4, [.ref st, .ref tr, .ref ra, .int (nI R), .ref sa, .int tc, .int (nI 2)])), (st, .inr (2, [.ref ap, .ref ak, .ref ao, .int (nI M), .int (nI B)])), (ak, aI G 4 K)]) rfl rfl rfl rfl hl.1 rfl (Nat.le_of_ble_eq_true rfl) dX4_as_47 ⟨Nat.zero_le _, Nat.zero_le _⟩ (fun H locs hP hD hS => ?_)
        refine W.eq (g2 := F0 m 50 ls [.int ((-10) - (nI 2))]) rfl ?_
        exact hret _ _ _ _ _ (by first | with_reducible rfl | (simp only [s_as, f_as, iF_t c1, iF_t c2, iF_f c3, iF_t (i32_nle c3), tn_nI (show jb < 2 ^ 31 by omega)]; done) | contradiction) (by first | with_reducible exact hP | (simp only [s_as, f_as, iF_t c1, iF_t c2, iF_f c3, iF_t (i32_nle c3), tn_nI (show jb < 2 ^ 31 by omega)]; with_reducible exact hP) | contradiction | (simp only [s_as, f_as, iF_t c1, iF_t c2, iF_f c3, iF_t (i32_nle c3), tn_nI (show jb < 2 ^ 31 by omega)]; exact hP) | exact hP) hS dX4_as_50
    ·
      refine lv_aload_n hx hb dX4_as_25 rfl (lv_at hl 0 rfl) ?_
      refine lv_bipush (v := (-2)) hx hb dX4_as_26 (by decide) ?_
      refine wtV (As := [.int (-2)]) (rest := []) (ci := 4) (q0 := 0) hE (kX4_refused l G x st tr ra sa R tc fl (-2) ) (cwV 1 hts gX4_as_X4_refused rfl rfl rfl (by decide +kernel) ⟨Nat.le_of_ble_eq_true rfl, Nat.le_of_ble_eq_true rfl⟩) hP hK hD hS [0] (by decide) rfl (Eq.trans (b := [x]) rfl rfl) (W1 := [(x, .inr (4, [.ref st, .ref tr, .ref ra, .int (nI R), .ref sa, .int tc, .int (nI 0)])), (st, .inr (2, [.ref ap, .ref ak, .ref ao, .int (nI M), .int (nI B)])), (ak, aI G 4 K)]) rfl rfl rfl rfl hl.1 rfl (Nat.le_of_ble_eq_true rfl) dX4_as_28 ⟨Nat.zero_le _, Nat.zero_le _⟩ (fun H locs hP hD hS => ?_)
      refine W.eq (g2 := F0 m 31 ls [.int (-2)]) rfl ?_
      exact hret _ _ _ _ _ (by first | with_reducible rfl | (simp only [s_as, f_as, iF_t c1, iF_f c2, tn_nI (show jb < 2 ^ 31 by omega)]; done) | contradiction) (by first | with_reducible exact hP | (simp only [s_as, f_as, iF_t c1, iF_f c2, tn_nI (show jb < 2 ^ 31 by omega)]; with_reducible exact hP) | contradiction | (simp only [s_as, f_as, iF_t c1, iF_f c2, tn_nI (show jb < 2 ^ 31 by omega)]; exact hP) | exact hP) hS dX4_as_31
  ·
    refine lv_aload_n hx hb dX4_as_11 rfl (lv_at hl 0 rfl) ?_
    refine lv_iconst (v := (-1)) hx hb dX4_as_12 (by decide) ?_
    refine wtV (As := [.int (-1)]) (rest := []) (ci := 4) (q0 := 0) hE (kX4_refused l G x st tr ra sa R tc fl (-1) ) (cwV 1 hts gX4_as_X4_refused rfl rfl rfl (by decide +kernel) ⟨Nat.le_of_ble_eq_true rfl, Nat.le_of_ble_eq_true rfl⟩) hP hK hD hS [0] (by decide) rfl (Eq.trans (b := [x]) rfl rfl) (W1 := [(x, .inr (4, [.ref st, .ref tr, .ref ra, .int (nI R), .ref sa, .int tc, .int (nI 0)])), (st, .inr (2, [.ref ap, .ref ak, .ref ao, .int (nI M), .int (nI B)])), (ak, aI G 4 K)]) rfl rfl rfl rfl hl.1 rfl (Nat.le_of_ble_eq_true rfl) dX4_as_13 ⟨Nat.zero_le _, Nat.zero_le _⟩ (fun H locs hP hD hS => ?_)
    refine W.eq (g2 := F0 m 16 ls [.int (-1)]) rfl ?_
    exact hret _ _ _ _ _ (by first | with_reducible rfl | (simp only [s_as, f_as, iF_f c1]; done) | contradiction) (by first | with_reducible exact hP | (simp only [s_as, f_as, iF_f c1]; with_reducible exact hP) | contradiction | (simp only [s_as, f_as, iF_f c1]; exact hP) | exact hP) hS dX4_as_16
