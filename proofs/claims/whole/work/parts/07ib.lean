theorem lkX4_town_40 : Cond.fieldLink RX4 40 (TX4 6).1 (TX4 6).2.1 (TX4 6).2.2.1 ∈ wsX4_town := List.mem_of_getElem? (i := 2) rfl
theorem ixX4_town_X3 : ∀ w ∈ wsX30, w ∈ wsX4_town := fun _ h => List.mem_cons_of_mem _ (List.mem_append_left _ (List.mem_append_left _ (List.mem_append_right _ h)))
set_option maxHeartbeats 4000000 in
set_option maxRecDepth 100000 in
theorem kX4_townb (l : Launch) (G : Gl) (x : Nat) (st : Nat) (tr : Nat) (ra : Nat) (sa : Nat) (R : Nat) (tc : Int32) (fl : Int32) (SA : Nat → Option Nat) (sh : Nat) (sc : Nat) (ln : Int32) (L : Nat) (F : Nat → Int32) (k : Nat) (lane : Int32) (i : Nat) (n : Nat) (M9 : Nat) (hk4 : k < 4) (hln : vp_in lane (2 + 1)) (hsh : SA k = some sh) (hft : (ft (-1) ln L lane (nI i) (nI n)) = 0) (hin9 : i + n ≤ 60) (hMt : M9 = mT (fun t => F (i + t)) n) (hno : ¬ ((ffv (fun t => F (i + t)) M9 n) = (-9))) : Mk l G yX4_town wsX4_town ({ frames := 4, cells := 1, slots := 5, locals := 87 } : Room) 1 5 [.ref x, .int (nI k), .int lane, .int (nI i), .int (nI n)] [(x, .inr (4, [.ref st, .ref tr, .ref ra, .int (nI R), .ref sa, .int tc, .int fl])), (sa, aS G 4 SA), (sh, .inr (1, [.ref sc, .int ln, .int (nI L)])), (sc, aI G 60 F)] (fun rv9 w9 x9 => rv9 = some (.int ((-100) - (ffv (fun t => F (i + t)) M9 n))) ∧ w9 = [(x, .inr (4, [.ref st, .ref tr, .ref ra, .int (nI R), .ref sa, .int tc, .int (nI 0)])), (sa, aS G 4 SA), (sh, .inr (1, [.ref sc, .int ln, .int (nI L)])), (sc, aI G 60 F)]) := by
  refine Mk.ofI (cc := cX4_town) (maxL := 8) (by decide) rfl (Nat.le_of_ble_eq_true rfl) ?_
  intro p e s m below meth c Q A ls hE hP hK hD hS hA hl hret
  obtain ⟨hx, hb, hml, hown, hts⟩ := id hE
  have hl : lv_has ls 8 [(0, .ref x), (1, .int (nI k)), (2, .int lane), (3, .int (nI i)), (4, .int (nI n))] := hl
  refine lv_iload_n hx hb dX4_town_0 rfl (lv_at hl 1 rfl) ?_
  refine rdS (As := [.int (nI k)]) (rest := []) hE (kX4_isSheet l G (nI k) ) (va_cwS 1 hts gX4_town_X4_isSheet rfl rfl rfl (by decide +kernel) ⟨Nat.le_of_ble_eq_true rfl, Nat.le_of_ble_eq_true rfl⟩) hP hK [] rfl rfl hl.1 rfl (Nat.le_of_ble_eq_true rfl) dX4_town_1 ⟨Nat.le_of_ble_eq_true rfl, Nat.le_of_ble_eq_true rfl⟩ ?_
  refine W.eq (g2 := F0 m 4 ls [.int (bI (vp_in (nI k) 4))]) rfl ?_
  refine bz_ne (tgt := 13) hx hb dX4_town_4 (by decide) (fun c1 => ?_) (fun c1 => ?_)
  ·
    refine lv_iload_n hx hb dX4_town_13 rfl (lv_at hl 2 rfl) ?_
    refine rdS (As := [.int lane]) (rest := []) hE (kX4_isLane l G lane ) (va_cwS 1 hts gX4_town_X4_isLane rfl rfl rfl (by decide +kernel) ⟨Nat.le_of_ble_eq_true rfl, Nat.le_of_ble_eq_true rfl⟩) hP hK [] rfl rfl hl.1 rfl (Nat.le_of_ble_eq_true rfl) dX4_town_14 ⟨Nat.le_of_ble_eq_true rfl, Nat.le_of_ble_eq_true rfl⟩ ?_
    refine W.eq (g2 := F0 m 17 ls [.int (bI (vp_in lane (2 + 1)))]) rfl ?_
    refine bz_ne (tgt := 27) hx hb dX4_town_17 (by decide) (fun c2 => ?_) (fun c2 => ?_)
    ·
      refine lv_aload_n hx hb dX4_town_27 rfl (lv_at hl 0 rfl) ?_
      refine g_get (v := .ref sa) hx hb hts ixX4_town_X4 hown hK hP 0 rfl rfl 4 (by decide) lkX4_town_33 rfl dX4_town_28 ?_
      refine lv_iload_n hx hb dX4_town_31 rfl (lv_at hl 1 rfl) ?_
      refine n_aldS hx hb hK hP 1 rfl (k := k) (x := sh) (by omega) (by decide) hsh dX4_town_32 ?_
      refine lv_iload_n hx hb dX4_town_33 rfl (lv_at hl 2 rfl) ?_
      refine lv_iload_n hx hb dX4_town_34 rfl (lv_at hl 3 rfl) ?_
      refine lv_iload hx hb dX4_town_35 (lv_at hl 4 rfl) ?_
      refine rdV (As := [.int lane, .int (nI i), .int (nI n)]) (rest := []) (ci := 1) (q0 := 2) hE (kX1_faultOfTaking l G sh sc ln L lane (nI i) (nI n) ) (cwV 3 hts gX4_town_X1_faultOfTaking rfl rfl rfl (by decide +kernel) ⟨Nat.le_of_ble_eq_true rfl, Nat.le_of_ble_eq_true rfl⟩) hP hK [2] rfl rfl rfl rfl hl.1 rfl (Nat.le_of_ble_eq_true rfl) dX4_town_37 ⟨Nat.le_of_ble_eq_true rfl, Nat.le_of_ble_eq_true rfl⟩ ?_
      refine W.eq (g2 := F0 m 40 ls [.int (ft (-1) ln L lane (nI i) (nI n))]) rfl ?_
      refine lv_istore (lv' := [(5, .int (ft (-1) ln L lane (nI i) (nI n))), (0, .ref x), (1, .int (nI k)), (2, .int lane), (3, .int (nI i)), (4, .int (nI n))]) hx hb dX4_town_40 hl (by decide) rfl (fun ls hl => ?_)
      refine lv_iload hx hb dX4_town_42 (lv_at hl 0 rfl) ?_
      refine lv_if_eq (tgt := 54) hx hb dX4_town_44 (by decide) (fun c3 => ?_) (fun c3 => ?_)
      ·
        refine lv_aload_n hx hb dX4_town_54 rfl (lv_at hl 1 rfl) ?_
        refine lv_iconst (v := nI 0) hx hb dX4_town_55 (by decide) ?_
        refine g_put (v := (nI 0)) hx hb hts ixX4_town_X4 tyX4 tyX4_ok nmX4 hown hK hP hD hS 0 rfl rfl 6 (by decide) lkX4_town_40 rfl rfl (Nat.le_of_ble_eq_true rfl) dX4_town_56 (fun H locs hP hD hS => ?_)
        have hP : va_P G.1 vwCl [(x, .inr (4, [.ref st, .ref tr, .ref ra, .int (nI R), .ref sa, .int tc, .int (nI 0)])), (sa, aS G 4 SA), (sh, .inr (1, [.ref sc, .int ln, .int (nI L)])), (sc, aI G 60 F)] H := hP
        have hD : va_D A [(x, .inr (4, [.ref st, .ref tr, .ref ra, .int (nI R), .ref sa, .int tc, .int (nI 0)])), (sa, aS G 4 SA), (sh, .inr (1, [.ref sc, .int ln, .int (nI L)])), (sc, aI G 60 F)] := hD
        refine va_new (D := G.1) (ci := 3) (C := RX3) (T := TX3) (N := 5) (fs := [.null, .int (nI 0), .int (nI 0), .int (nI 0), .int (nI 0)]) hx hb hts ixX4_town_X3 tyX3 tyX3_ok hown (hts (.classLink RX4 63 RX3) (List.mem_of_getElem? (i := 3) rfl)) (hts (.instantiable RX3 5) (List.mem_of_getElem? (i := 4) rfl)) (hts (.initialized RX3) (List.mem_of_getElem? (i := 5) rfl)) hK.1 hP hD hS hA rfl (fun j hj => by rcases (show j = 0 ∨ j = 1 ∨ j = 2 ∨ j = 3 ∨ j = 4 by omega) with rfl | rfl | rfl | rfl | rfl <;> rfl) (Nat.le_of_ble_eq_true rfl) (Nat.le_of_ble_eq_true rfl) dX4_town_59 (fun tt H hP hD hS => ?_)
        have hP : va_P G.1 vwCl [(x, .inr (4, [.ref st, .ref tr, .ref ra, .int (nI R), .ref sa, .int tc, .int (nI 0)])), (sa, aS G 4 SA), (sh, .inr (1, [.ref sc, .int ln, .int (nI L)])), (sc, aI G 60 F), (tt, .inr (3, [.null, .int (nI 0), .int (nI 0), .int (nI 0), .int (nI 0)]))] H := hP
        have hD : va_D A [(x, .inr (4, [.ref st, .ref tr, .ref ra, .int (nI R), .ref sa, .int tc, .int (nI 0)])), (sa, aS G 4 SA), (sh, .inr (1, [.ref sc, .int ln, .int (nI L)])), (sc, aI G 60 F), (tt, .inr (3, [.null, .int (nI 0), .int (nI 0), .int (nI 0), .int (nI 0)]))] := hD
        refine lv_dup hx hb dX4_town_62 rfl ?_
        refine lv_aload_n hx hb dX4_town_63 rfl (lv_at hl 1 rfl) ?_
        refine g_get (v := .ref sa) hx hb hts ixX4_town_X4 hown hK hP 0 rfl rfl 4 (by decide) lkX4_town_33 rfl dX4_town_64 ?_
        refine lv_iload_n hx hb dX4_town_67 rfl (lv_at hl 2 rfl) ?_
        refine n_aldS hx hb hK hP 1 rfl (k := k) (x := sh) (by omega) (by decide) hsh dX4_town_68 ?_
        refine lv_iload_n hx hb dX4_town_69 rfl (lv_at hl 4 rfl) ?_
        refine lv_iload hx hb dX4_town_70 (lv_at hl 5 rfl) ?_
        refine wtI (As := [.ref sh, .int (nI i), .int (nI n)]) (rest := [.ref tt]) hE (kX3_init l G tt sh sc ln L F i n M9 (nI 0) (nI 0) (nI 0) (nI 0) hin9 hMt) (cwI 3 hts gX4_town_X3_init rfl rfl rfl (hts (.initialized RX3) (List.mem_of_getElem? (i := 5) rfl)) (hts (.methodLink RX4 65 yX3_init) (List.mem_of_getElem? (i := 38) rfl)) (hts (.instanceMethod yX3_init) (List.mem_of_getElem? (i := 39) rfl)) rfl (by decide +kernel) ⟨Nat.le_of_ble_eq_true rfl, Nat.le_of_ble_eq_true rfl⟩) hP hK hD hS [4, 2, 3] (by decide) rfl (Eq.trans (b := [tt, sh, sc]) rfl rfl) (W1 := [(x, .inr (4, [.ref st, .ref tr, .ref ra, .int (nI R), .ref sa, .int tc, .int (nI 0)])), (sa, aS G 4 SA), (sh, .inr (1, [.ref sc, .int ln, .int (nI L)])), (sc, aI G 60 F), (tt, .inr (3, [.ref sh, .int (nI i), .int (nI n), .int (nI M9), .int (nI (2 + M9 * (M9 + 1)))]))]) rfl rfl hl.1 rfl (Nat.le_of_ble_eq_true rfl) dX4_town_72 ⟨Nat.le_of_ble_eq_true rfl, Nat.le_of_ble_eq_true rfl⟩ (fun H locs hP hD hS => ?_)
        refine W.eq (g2 := F0 m 75 ls [.ref tt]) rfl ?_
        refine lv_astore (lv' := [(6, .ref tt), (5, .int (ft (-1) ln L lane (nI i) (nI n))), (0, .ref x), (1, .int (nI k)), (2, .int lane), (3, .int (nI i)), (4, .int (nI n))]) hx hb dX4_town_75 hl (by decide) rfl (fun ls hl => ?_)
        refine lv_aload hx hb dX4_town_77 (lv_at hl 0 rfl) ?_
        have hM5 := mT_or (fun t => F (i + t)) n
        rw [← hMt] at hM5
        refine rdV (As := []) (rest := []) (ci := 3) (q0 := 4) hE (kX3_firstFault l G tt sh sc ln L F i n M9 (by omega) (by omega) hin9) (cwV 0 hts gX4_town_X3_firstFault rfl rfl rfl (by decide +kernel) ⟨Nat.le_of_ble_eq_true rfl, Nat.le_of_ble_eq_true rfl⟩) hP hK [4, 2, 3] rfl rfl rfl rfl hl.1 rfl (Nat.le_of_ble_eq_true rfl) dX4_town_79 ⟨Nat.le_of_ble_eq_true rfl, Nat.le_of_ble_eq_true rfl⟩ ?_
        refine W.eq (g2 := F0 m 82 ls [.int (ffv (fun t => F (i + t)) M9 n)]) rfl ?_
        refine lv_istore (lv' := [(7, .int (ffv (fun t => F (i + t)) M9 n)), (6, .ref tt), (5, .int (ft (-1) ln L lane (nI i) (nI n))), (0, .ref x), (1, .int (nI k)), (2, .int lane), (3, .int (nI i)), (4, .int (nI n))]) hx hb dX4_town_82 hl (by decide) rfl (fun ls hl => ?_)
        refine lv_iload hx hb dX4_town_84 (lv_at hl 0 rfl) ?_
        refine lv_bipush (v := (-9)) hx hb dX4_town_86 (by decide) ?_
        refine lv_icmp_eq (tgt := 97) hx hb dX4_town_88 (by decide) (fun c4 => ?_) (fun c4 => ?_)
        ·
          exact absurd c4 hno
        ·
          refine lv_bipush (v := (-100)) hx hb dX4_town_91 (by decide) ?_
          refine lv_iload hx hb dX4_town_93 (lv_at hl 0 rfl) ?_
          refine lv_isub hx hb dX4_town_95 ?_
          exact hret _ _ _ _ _ [(x, .inr (4, [.ref st, .ref tr, .ref ra, .int (nI R), .ref sa, .int tc, .int (nI 0)])), (sa, aS G 4 SA), (sh, .inr (1, [.ref sc, .int ln, .int (nI L)])), (sc, aI G 60 F)] [(tt, .inr (3, [.ref sh, .int (nI i), .int (nI n), .int (nI M9), .int (nI (2 + M9 * (M9 + 1)))]))] ⟨(congrArg (fun z => some (Value.int z)) (by first | with_reducible rfl | (simp only [iF_t c1, iF_t c2, iF_t c3, iF_f c4]; done) | contradiction)), rfl⟩ (Eq.trans (b := [x, sa, sh, sc]) rfl rfl) hP hD hS dX4_town_96
      ·
        exact absurd hft c3
    ·
      exact absurd hln c2
  ·
    exact absurd (vp_in_nI hk4 (by omega)) c1

theorem lkX4_town_12 : Cond.fieldLink RX4 12 (TX4 0).1 (TX4 0).2.1 (TX4 0).2.2.1 ∈ wsX4_town := List.mem_of_getElem? (i := 6) rfl
theorem lkX4_town_27 : Cond.fieldLink RX4 27 (TX4 3).1 (TX4 3).2.1 (TX4 3).2.2.1 ∈ wsX4_town := List.mem_of_getElem? (i := 7) rfl
theorem ixX4_town_X2 : ∀ w ∈ wsX20, w ∈ wsX4_town := fun _ h => List.mem_cons_of_mem _ (List.mem_append_left _ (List.mem_append_right _ h))
set_option maxHeartbeats 4000000 in
set_option maxRecDepth 100000 in
theorem kX4_towng (l : Launch) (G : Gl) (x : Nat) (st : Nat) (tr : Nat) (ra : Nat) (sa : Nat) (R : Nat) (tc : Int32) (fl : Int32) (SA : Nat → Option Nat) (sh : Nat) (sc : Nat) (ln : Int32) (L : Nat) (F : Nat → Int32) (k : Nat) (lane : Int32) (i : Nat) (n : Nat) (M9 : Nat) (ap : Nat) (ak : Nat) (ao : Nat) (M : Nat) (B : Nat) (B9 : Nat) (P : Nat → Int32) (K : Nat → Int32) (U : Nat → Int32) (hk4 : k < 4) (hln : vp_in lane (2 + 1)) (hsh : SA k = some sh) (hft : (ft (-1) ln L lane (nI i) (nI n)) = 0) (hin9 : i + n ≤ 60) (hMt : M9 = mT (fun t => F (i + t)) n) (hok : (ffv (fun t => F (i + t)) M9 n) = (-9)) (hM2 : 2 ≤ M9) (hM : M9 ≤ 5) (hfb : 2 + M9 * (M9 + 1) < n) (hBn : B9 = (n - (2 + M9 * (M9 + 1))) / 3) (hB : B9 ≤ 4) : Mk l G yX4_town wsX4_town ({ frames := 4, cells := 1, slots := 5, locals := 87 } : Room) 1 5 [.ref x, .int (nI k), .int lane, .int (nI i), .int (nI n)] [(x, .inr (4, [.ref st, .ref tr, .ref ra, .int (nI R), .ref sa, .int tc, .int fl])), (sa, aS G 4 SA), (sh, .inr (1, [.ref sc, .int ln, .int (nI L)])), (sc, aI G 60 F), (st, .inr (2, [.ref ap, .ref ak, .ref ao, .int (nI M), .int (nI B)])), (ap, aI G 25 P), (ak, aI G 4 K), (ao, aI G 4 U)] (fun rv9 w9 x9 => rv9 = some (.int (nI B9)) ∧ w9 = [(x, .inr (4, [.ref st, .ref tr, .ref ra, .int (nI 0), .ref sa, .int tc, .int (nI 0)])), (sa, aS G 4 SA), (sh, .inr (1, [.ref sc, .int ln, .int (nI L)])), (sc, aI G 60 F), (st, .inr (2, [.ref ap, .ref ak, .ref ao, .int (nI M9), .int (nI B9)])), (ap, aI G 25 (spO P (fun t => F (i + t)) M9 M9)), (ak, aI G 4 (skK K (fun t => F (i + t)) M9 B9)), (ao, aI G 4 (skU U (fun t => F (i + t)) M9 B9))]) := by
  refine Mk.ofI (cc := cX4_town) (maxL := 8) (by decide) rfl (Nat.le_of_ble_eq_true rfl) ?_
  intro p e s m below meth c Q A ls hE hP hK hD hS hA hl hret
  obtain ⟨hx, hb, hml, hown, hts⟩ := id hE
  have hl : lv_has ls 8 [(0, .ref x), (1, .int (nI k)), (2, .int lane), (3, .int (nI i)), (4, .int (nI n))] := hl
  refine lv_iload_n hx hb dX4_town_0 rfl (lv_at hl 1 rfl) ?_
  refine rdS (As := [.int (nI k)]) (rest := []) hE (kX4_isSheet l G (nI k) ) (va_cwS 1 hts gX4_town_X4_isSheet rfl rfl rfl (by decide +kernel) ⟨Nat.le_of_ble_eq_true rfl, Nat.le_of_ble_eq_true rfl⟩) hP hK [] rfl rfl hl.1 rfl (Nat.le_of_ble_eq_true rfl) dX4_town_1 ⟨Nat.le_of_ble_eq_true rfl, Nat.le_of_ble_eq_true rfl⟩ ?_
  refine W.eq (g2 := F0 m 4 ls [.int (bI (vp_in (nI k) 4))]) rfl ?_
  refine bz_ne (tgt := 13) hx hb dX4_town_4 (by decide) (fun c1 => ?_) (fun c1 => ?_)
  ·
    refine lv_iload_n hx hb dX4_town_13 rfl (lv_at hl 2 rfl) ?_
    refine rdS (As := [.int lane]) (rest := []) hE (kX4_isLane l G lane ) (va_cwS 1 hts gX4_town_X4_isLane rfl rfl rfl (by decide +kernel) ⟨Nat.le_of_ble_eq_true rfl, Nat.le_of_ble_eq_true rfl⟩) hP hK [] rfl rfl hl.1 rfl (Nat.le_of_ble_eq_true rfl) dX4_town_14 ⟨Nat.le_of_ble_eq_true rfl, Nat.le_of_ble_eq_true rfl⟩ ?_
    refine W.eq (g2 := F0 m 17 ls [.int (bI (vp_in lane (2 + 1)))]) rfl ?_
    refine bz_ne (tgt := 27) hx hb dX4_town_17 (by decide) (fun c2 => ?_) (fun c2 => ?_)
    ·
      refine lv_aload_n hx hb dX4_town_27 rfl (lv_at hl 0 rfl) ?_
      refine g_get (v := .ref sa) hx hb hts ixX4_town_X4 hown hK hP 0 rfl rfl 4 (by decide) lkX4_town_33 rfl dX4_town_28 ?_
      refine lv_iload_n hx hb dX4_town_31 rfl (lv_at hl 1 rfl) ?_
      refine n_aldS hx hb hK hP 1 rfl (k := k) (x := sh) (by omega) (by decide) hsh dX4_town_32 ?_
      refine lv_iload_n hx hb dX4_town_33 rfl (lv_at hl 2 rfl) ?_
      refine lv_iload_n hx hb dX4_town_34 rfl (lv_at hl 3 rfl) ?_
      refine lv_iload hx hb dX4_town_35 (lv_at hl 4 rfl) ?_
      refine rdV (As := [.int lane, .int (nI i), .int (nI n)]) (rest := []) (ci := 1) (q0 := 2) hE (kX1_faultOfTaking l G sh sc ln L lane (nI i) (nI n) ) (cwV 3 hts gX4_town_X1_faultOfTaking rfl rfl rfl (by decide +kernel) ⟨Nat.le_of_ble_eq_true rfl, Nat.le_of_ble_eq_true rfl⟩) hP hK [2] rfl rfl rfl rfl hl.1 rfl (Nat.le_of_ble_eq_true rfl) dX4_town_37 ⟨Nat.le_of_ble_eq_true rfl, Nat.le_of_ble_eq_true rfl⟩ ?_
      refine W.eq (g2 := F0 m 40 ls [.int (ft (-1) ln L lane (nI i) (nI n))]) rfl ?_
      refine lv_istore (lv' := [(5, .int (ft (-1) ln L lane (nI i) (nI n))), (0, .ref x), (1, .int (nI k)), (2, .int lane), (3, .int (nI i)), (4, .int (nI n))]) hx hb dX4_town_40 hl (by decide) rfl (fun ls hl => ?_)
      refine lv_iload hx hb dX4_town_42 (lv_at hl 0 rfl) ?_
      refine lv_if_eq (tgt := 54) hx hb dX4_town_44 (by decide) (fun c3 => ?_) (fun c3 => ?_)
      ·
        refine lv_aload_n hx hb dX4_town_54 rfl (lv_at hl 1 rfl) ?_
        refine lv_iconst (v := nI 0) hx hb dX4_town_55 (by decide) ?_
        refine g_put (v := (nI 0)) hx hb hts ixX4_town_X4 tyX4 tyX4_ok nmX4 hown hK hP hD hS 0 rfl rfl 6 (by decide) lkX4_town_40 rfl rfl (Nat.le_of_ble_eq_true rfl) dX4_town_56 (fun H locs hP hD hS => ?_)
        have hP : va_P G.1 vwCl [(x, .inr (4, [.ref st, .ref tr, .ref ra, .int (nI R), .ref sa, .int tc, .int (nI 0)])), (sa, aS G 4 SA), (sh, .inr (1, [.ref sc, .int ln, .int (nI L)])), (sc, aI G 60 F), (st, .inr (2, [.ref ap, .ref ak, .ref ao, .int (nI M), .int (nI B)])), (ap, aI G 25 P), (ak, aI G 4 K), (ao, aI G 4 U)] H := hP
        have hD : va_D A [(x, .inr (4, [.ref st, .ref tr, .ref ra, .int (nI R), .ref sa, .int tc, .int (nI 0)])), (sa, aS G 4 SA), (sh, .inr (1, [.ref sc, .int ln, .int (nI L)])), (sc, aI G 60 F), (st, .inr (2, [.ref ap, .ref ak, .ref ao, .int (nI M), .int (nI B)])), (ap, aI G 25 P), (ak, aI G 4 K), (ao, aI G 4 U)] := hD
        refine va_new (D := G.1) (ci := 3) (C := RX3) (T := TX3) (N := 5) (fs := [.null, .int (nI 0), .int (nI 0), .int (nI 0), .int (nI 0)]) hx hb hts ixX4_town_X3 tyX3 tyX3_ok hown (hts (.classLink RX4 63 RX3) (List.mem_of_getElem? (i := 3) rfl)) (hts (.instantiable RX3 5) (List.mem_of_getElem? (i := 4) rfl)) (hts (.initialized RX3) (List.mem_of_getElem? (i := 5) rfl)) hK.1 hP hD hS hA rfl (fun j hj => by rcases (show j = 0 ∨ j = 1 ∨ j = 2 ∨ j = 3 ∨ j = 4 by omega) with rfl | rfl | rfl | rfl | rfl <;> rfl) (Nat.le_of_ble_eq_true rfl) (Nat.le_of_ble_eq_true rfl) dX4_town_59 (fun tt H hP hD hS => ?_)
        have hP : va_P G.1 vwCl [(x, .inr (4, [.ref st, .ref tr, .ref ra, .int (nI R), .ref sa, .int tc, .int (nI 0)])), (sa, aS G 4 SA), (sh, .inr (1, [.ref sc, .int ln, .int (nI L)])), (sc, aI G 60 F), (st, .inr (2, [.ref ap, .ref ak, .ref ao, .int (nI M), .int (nI B)])), (ap, aI G 25 P), (ak, aI G 4 K), (ao, aI G 4 U), (tt, .inr (3, [.null, .int (nI 0), .int (nI 0), .int (nI 0), .int (nI 0)]))] H := hP
        have hD : va_D A [(x, .inr (4, [.ref st, .ref tr, .ref ra, .int (nI R), .ref sa, .int tc, .int (nI 0)])), (sa, aS G 4 SA), (sh, .inr (1, [.ref sc, .int ln, .int (nI L)])), (sc, aI G 60 F), (st, .inr (2, [.ref ap, .ref ak, .ref ao, .int (nI M), .int (nI B)])), (ap, aI G 25 P), (ak, aI G 4 K), (ao, aI G 4 U), (tt, .inr (3, [.null, .int (nI 0), .int (nI 0), .int (nI 0), .int (nI 0)]))] := hD
        refine lv_dup hx hb dX4_town_62 rfl ?_
        refine lv_aload_n hx hb dX4_town_63 rfl (lv_at hl 1 rfl) ?_
        refine g_get (v := .ref sa) hx hb hts ixX4_town_X4 hown hK hP 0 rfl rfl 4 (by decide) lkX4_town_33 rfl dX4_town_64 ?_
        refine lv_iload_n hx hb dX4_town_67 rfl (lv_at hl 2 rfl) ?_
        refine n_aldS hx hb hK hP 1 rfl (k := k) (x := sh) (by omega) (by decide) hsh dX4_town_68 ?_
        refine lv_iload_n hx hb dX4_town_69 rfl (lv_at hl 4 rfl) ?_
        refine lv_iload hx hb dX4_town_70 (lv_at hl 5 rfl) ?_
        refine wtI (As := [.ref sh, .int (nI i), .int (nI n)]) (rest := [.ref tt]) hE (kX3_init l G tt sh sc ln L F i n M9 (nI 0) (nI 0) (nI 0) (nI 0) hin9 hMt) (cwI 3 hts gX4_town_X3_init rfl rfl rfl (hts (.initialized RX3) (List.mem_of_getElem? (i := 5) rfl)) (hts (.methodLink RX4 65 yX3_init) (List.mem_of_getElem? (i := 38) rfl)) (hts (.instanceMethod yX3_init) (List.mem_of_getElem? (i := 39) rfl)) rfl (by decide +kernel) ⟨Nat.le_of_ble_eq_true rfl, Nat.le_of_ble_eq_true rfl⟩) hP hK hD hS [8, 2, 3] (by decide) rfl (Eq.trans (b := [tt, sh, sc]) rfl rfl) (W1 := [(x, .inr (4, [.ref st, .ref tr, .ref ra, .int (nI R), .ref sa, .int tc, .int (nI 0)])), (sa, aS G 4 SA), (sh, .inr (1, [.ref sc, .int ln, .int (nI L)])), (sc, aI G 60 F), (st, .inr (2, [.ref ap, .ref ak, .ref ao, .int (nI M), .int (nI B)])), (ap, aI G 25 P), (ak, aI G 4 K), (ao, aI G 4 U), (tt, .inr (3, [.ref sh, .int (nI i), .int (nI n), .int (nI M9), .int (nI (2 + M9 * (M9 + 1)))]))]) rfl rfl hl.1 rfl (Nat.le_of_ble_eq_true rfl) dX4_town_72 ⟨Nat.le_of_ble_eq_true rfl, Nat.le_of_ble_eq_true rfl⟩ (fun H locs hP hD hS => ?_)
        refine W.eq (g2 := F0 m 75 ls [.ref tt]) rfl ?_
        refine lv_astore (lv' := [(6, .ref tt), (5, .int (ft (-1) ln L lane (nI i) (nI n))), (0, .ref x), (1, .int (nI k)), (2, .int lane), (3, .int (nI i)), (4, .int (nI n))]) hx hb dX4_town_75 hl (by decide) rfl (fun ls hl => ?_)
        refine lv_aload hx hb dX4_town_77 (lv_at hl 0 rfl) ?_
        have hM5 := mT_or (fun t => F (i + t)) n
        rw [← hMt] at hM5
        refine rdV (As := []) (rest := []) (ci := 3) (q0 := 8) hE (kX3_firstFault l G tt sh sc ln L F i n M9 (by omega) (by omega) hin9) (cwV 0 hts gX4_town_X3_firstFault rfl rfl rfl (by decide +kernel) ⟨Nat.le_of_ble_eq_true rfl, Nat.le_of_ble_eq_true rfl⟩) hP hK [8, 2, 3] rfl rfl rfl rfl hl.1 rfl (Nat.le_of_ble_eq_true rfl) dX4_town_79 ⟨Nat.le_of_ble_eq_true rfl, Nat.le_of_ble_eq_true rfl⟩ ?_
        refine W.eq (g2 := F0 m 82 ls [.int (ffv (fun t => F (i + t)) M9 n)]) rfl ?_
        refine lv_istore (lv' := [(7, .int (ffv (fun t => F (i + t)) M9 n)), (6, .ref tt), (5, .int (ft (-1) ln L lane (nI i) (nI n))), (0, .ref x), (1, .int (nI k)), (2, .int lane), (3, .int (nI i)), (4, .int (nI n))]) hx hb dX4_town_82 hl (by decide) rfl (fun ls hl => ?_)
        refine lv_iload hx hb dX4_town_84 (lv_at hl 0 rfl) ?_
        refine lv_bipush (v := (-9)) hx hb dX4_town_86 (by decide) ?_
        refine lv_icmp_eq (tgt := 97) hx hb dX4_town_88 (by decide) (fun c4 => ?_) (fun c4 => ?_)
        ·
          refine lv_aload hx hb dX4_town_97 (lv_at hl 1 rfl) ?_
          refine lv_aload_n hx hb dX4_town_99 rfl (lv_at hl 3 rfl) ?_
          refine g_get (v := .ref st) hx hb hts ixX4_town_X4 hown hK hP 0 rfl rfl 0 (by decide) lkX4_town_12 rfl dX4_town_100 ?_
          refine wtV (As := [.ref st]) (rest := []) (ci := 3) (q0 := 8) hE (kX3_settle l G tt sh sc ln L F i n M9 B9 st ap ak ao (nI M) (nI B) P K U hM2 hM hin9 hfb hBn hB) (cwV 1 hts gX4_town_X3_settle rfl rfl rfl (by decide +kernel) ⟨Nat.le_of_ble_eq_true rfl, Nat.le_of_ble_eq_true rfl⟩) hP hK hD hS [8, 2, 3, 4, 5, 6, 7] (by decide) rfl (Eq.trans (b := [tt, sh, sc, st, ap, ak, ao]) rfl rfl) (W1 := [(x, .inr (4, [.ref st, .ref tr, .ref ra, .int (nI R), .ref sa, .int tc, .int (nI 0)])), (sa, aS G 4 SA), (sh, .inr (1, [.ref sc, .int ln, .int (nI L)])), (sc, aI G 60 F), (st, .inr (2, [.ref ap, .ref ak, .ref ao, .int (nI M9), .int (nI B9)])), (ap, aI G 25 (spO P (fun st => F (i + st)) M9 M9)), (ak, aI G 4 (skK K (fun st => F (i + st)) M9 B9)), (ao, aI G 4 (skU U (fun st => F (i + st)) M9 B9)), (tt, .inr (3, [.ref sh, .int (nI i), .int (nI n), .int (nI M9), .int (nI (2 + M9 * (M9 + 1)))]))]) rfl rfl rfl rfl hl.1 rfl (Nat.le_of_ble_eq_true rfl) dX4_town_103 ⟨Nat.le_of_ble_eq_true rfl, Nat.le_of_ble_eq_true rfl⟩ (fun H locs hP hD hS => ?_)
          refine W.eq (g2 := F0 m 106 ls []) rfl ?_
          refine lv_aload_n hx hb dX4_town_106 rfl (lv_at hl 3 rfl) ?_
          refine lv_iconst (v := nI 0) hx hb dX4_town_107 (by decide) ?_
          refine g_put (v := (nI 0)) hx hb hts ixX4_town_X4 tyX4 tyX4_ok nmX4 hown hK hP hD hS 0 rfl rfl 3 (by decide) lkX4_town_27 rfl rfl (Nat.le_of_ble_eq_true rfl) dX4_town_108 (fun H locs hP hD hS => ?_)
          have hP : va_P G.1 vwCl [(x, .inr (4, [.ref st, .ref tr, .ref ra, .int (nI 0), .ref sa, .int tc, .int (nI 0)])), (sa, aS G 4 SA), (sh, .inr (1, [.ref sc, .int ln, .int (nI L)])), (sc, aI G 60 F), (st, .inr (2, [.ref ap, .ref ak, .ref ao, .int (nI M9), .int (nI B9)])), (ap, aI G 25 (spO P (fun st => F (i + st)) M9 M9)), (ak, aI G 4 (skK K (fun st => F (i + st)) M9 B9)), (ao, aI G 4 (skU U (fun st => F (i + st)) M9 B9)), (tt, .inr (3, [.ref sh, .int (nI i), .int (nI n), .int (nI M9), .int (nI (2 + M9 * (M9 + 1)))]))] H := hP
          have hD : va_D A [(x, .inr (4, [.ref st, .ref tr, .ref ra, .int (nI 0), .ref sa, .int tc, .int (nI 0)])), (sa, aS G 4 SA), (sh, .inr (1, [.ref sc, .int ln, .int (nI L)])), (sc, aI G 60 F), (st, .inr (2, [.ref ap, .ref ak, .ref ao, .int (nI M9), .int (nI B9)])), (ap, aI G 25 (spO P (fun st => F (i + st)) M9 M9)), (ak, aI G 4 (skK K (fun st => F (i + st)) M9 B9)), (ao, aI G 4 (skU U (fun st => F (i + st)) M9 B9)), (tt, .inr (3, [.ref sh, .int (nI i), .int (nI n), .int (nI M9), .int (nI (2 + M9 * (M9 + 1)))]))] := hD
          refine lv_aload_n hx hb dX4_town_111 rfl (lv_at hl 3 rfl) ?_
          refine g_get (v := .ref st) hx hb hts ixX4_town_X4 hown hK hP 0 rfl rfl 0 (by decide) lkX4_town_12 rfl dX4_town_112 ?_
          refine g_getN (v := .int (nI B9)) hx hb hts ixX4_town_X2 hown hK hP 4 rfl rfl 4 (by decide) nkX4_76 rfl dX4_town_115 ?_
          exact hret _ _ _ _ _ [(x, .inr (4, [.ref st, .ref tr, .ref ra, .int (nI 0), .ref sa, .int tc, .int (nI 0)])), (sa, aS G 4 SA), (sh, .inr (1, [.ref sc, .int ln, .int (nI L)])), (sc, aI G 60 F), (st, .inr (2, [.ref ap, .ref ak, .ref ao, .int (nI M9), .int (nI B9)])), (ap, aI G 25 (spO P (fun st => F (i + st)) M9 M9)), (ak, aI G 4 (skK K (fun st => F (i + st)) M9 B9)), (ao, aI G 4 (skU U (fun st => F (i + st)) M9 B9))] [(tt, .inr (3, [.ref sh, .int (nI i), .int (nI n), .int (nI M9), .int (nI (2 + M9 * (M9 + 1)))]))] ⟨(congrArg (fun z => some (Value.int z)) (by first | with_reducible rfl | (simp only [iF_t c1, iF_t c2, iF_t c3, iF_t c4]; done) | contradiction)), rfl⟩ (Eq.trans (b := [x, sa, sh, sc, st, ap, ak, ao]) rfl rfl) hP hD hS dX4_town_118
        ·
          exact absurd hok c4
      ·
        exact absurd hft c3
    ·
      exact absurd hln c2
  ·
    exact absurd (vp_in_nI hk4 (by omega)) c1
