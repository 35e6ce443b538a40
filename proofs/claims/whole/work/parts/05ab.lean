theorem ixX4_allMastersTold_X4 : ∀ w ∈ wsX40, w ∈ wsX4_allMastersTold := fun _ h => List.mem_cons_of_mem _ (List.mem_append_left _ (List.mem_append_left _ (List.mem_append_right _ h)))
theorem lkX4_allMastersTold_12 : Cond.fieldLink RX4 12 (TX4 0).1 (TX4 0).2.1 (TX4 0).2.2.1 ∈ wsX4_allMastersTold := List.mem_of_getElem? (i := 1) rfl
theorem ixX4_allMastersTold_X1 : ∀ w ∈ wsX10, w ∈ wsX4_allMastersTold := fun _ h => List.mem_cons_of_mem _ (List.mem_append_left _ (List.mem_append_right _ h))
set_option maxHeartbeats 4000000 in
set_option maxRecDepth 100000 in
theorem kX4_allMastersTold (l : Launch) (G : Gl) (x : Nat) (st : Nat) (tr : Nat) (ra : Nat) (sa : Nat) (R : Nat) (tc : Int32) (fl : Int32) (ap : Nat) (ak : Nat) (ao : Nat) (M : Nat) (B : Nat) (sh : Nat) (sc : Nat) (ln : Int32) (L : Nat) (F : Nat → Int32) (i : Nat) (n : Nat) (hM : M ≤ 5) (hL : L ≤ 60) (hin : i + n ≤ L) : Rd l G yX4_allMastersTold wsX4_allMastersTold ({ frames := 1, cells := 0, slots := 0, locals := 21 } : Room) [.ref x, .ref sh, .int (nI i), .int (nI n)] [(x, .inr (4, [.ref st, .ref tr, .ref ra, .int (nI R), .ref sa, .int tc, .int fl])), (st, .inr (2, [.ref ap, .ref ak, .ref ao, .int (nI M), .int (nI B)])), (sh, .inr (1, [.ref sc, .int ln, .int (nI L)])), (sc, aI G 60 F)] (some (.int (bI (fi (fun t => ¬ vp_in (F (i + t)) M) n = none)))) := by
  refine Rd.ofZ (cc := cX4_allMastersTold) (maxL := 5) (by decide) rfl (Nat.le_of_ble_eq_true rfl) ?_
  intro p e s m below meth c Q ls hE hP hK hl hret
  obtain ⟨hx, hb, hml, hown, hts⟩ := id hE
  have hl : lv_has ls 5 [(0, .ref x), (1, .ref sh), (2, .int (nI i)), (3, .int (nI n))] := hl
  refine lv_iconst (v := nI 0) hx hb dX4_allMastersTold_0 (by decide) ?_
  refine lv_istore (lv' := [(4, .int (nI 0)), (0, .ref x), (1, .ref sh), (2, .int (nI i)), (3, .int (nI n))]) hx hb dX4_allMastersTold_1 hl (by decide) rfl (fun ls hl => ?_)
  have loop1 : ∀ (d k : Nat) (ls : Array Slot), n < k + d → k ≤ n → (fi (fun t => ¬ vp_in (F (i + t)) M) k = none) → lv_has ls 5 [(4, .int (nI k)), (0, .ref x), (1, .ref sh), (2, .int (nI i)), (3, .int (nI n))] → W p l e ({ frames := 1, cells := 0, slots := 0, locals := 21 } : Room) s m ([.ref x, .ref sh, .int (nI i), .int (nI n)] : List Value).toArray below meth c s.heap [] 0 0 Q (F0 m 3 ls []) := by
    intro d
    induction d with
    | zero =>
      intro k ls h1 h2
      omega
    | succ d ih1 =>
      intro k ls hdk hbk hk hl
      refine lv_iload hx hb dX4_allMastersTold_3 (lv_at hl 0 rfl) ?_
      refine lv_iload_n hx hb dX4_allMastersTold_5 rfl (lv_at hl 4 rfl) ?_
      refine ic_ge (tgt := 36) hx hb (by omega) (by omega) dX4_allMastersTold_6 (by decide) (fun c1 => ?_) (fun c1 => ?_)
      ·
        obtain rfl : n = k := by omega
        refine lv_iconst (v := nI 1) hx hb dX4_allMastersTold_36 (by decide) ?_
        exact hret _ _ _ ((bI_t hk).symm) dX4_allMastersTold_37
      ·
        refine lv_aload_n hx hb dX4_allMastersTold_9 rfl (lv_at hl 1 rfl) ?_
        refine g_get (v := .ref st) hx hb hts ixX4_allMastersTold_X4 hown hK hP 0 rfl rfl 0 (by decide) lkX4_allMastersTold_12 rfl dX4_allMastersTold_10 ?_
        refine lv_aload_n hx hb dX4_allMastersTold_13 rfl (lv_at hl 2 rfl) ?_
        refine g_getN (v := .ref sc) hx hb hts ixX4_allMastersTold_X1 hown hK hP 2 rfl rfl 0 (by decide) nkX4_139 rfl dX4_allMastersTold_14 ?_
        refine lv_iload_n hx hb dX4_allMastersTold_17 rfl (lv_at hl 3 rfl) ?_
        refine lv_iload hx hb dX4_allMastersTold_18 (lv_at hl 0 rfl) ?_
        refine lv_iadd hx hb dX4_allMastersTold_20 ?_
        refine lv_tope (show (nI i) + (nI k) = nI (i + k) from nI_add _ _) ?_
        refine n_ald hx hb hK hP 3 rfl (k := i + k) (by omega) (by decide) dX4_allMastersTold_21 ?_
        refine rdV (As := [.int (F (i + k))]) (rest := []) (ci := 2) (q0 := 1) hE (kX2_hasMaster l G st ap ak ao M B (F (i + k)) hM) (cwV 1 hts gX4_allMastersTold_X2_hasMaster rfl rfl rfl (by decide +kernel) ⟨Nat.le_of_ble_eq_true rfl, Nat.le_of_ble_eq_true rfl⟩) hP hK [1] rfl rfl rfl rfl hl.1 rfl (Nat.le_of_ble_eq_true rfl) dX4_allMastersTold_22 ⟨Nat.zero_le _, Nat.zero_le _⟩ ?_
        refine W.eq (g2 := F0 m 25 ls [.int (bI (vp_in (F (i + k)) M))]) rfl ?_
        refine bz_ne (tgt := 30) hx hb dX4_allMastersTold_25 (by decide) (fun c2 => ?_) (fun c2 => ?_)
        ·
          refine lv_iinc (v := nI (k + 1)) (lv' := [(4, .int (nI (k + 1))), (0, .ref x), (1, .ref sh), (2, .int (nI i)), (3, .int (nI n))]) hx hb dX4_allMastersTold_30 hl (k := 0) rfl (show nI k + Int32.ofInt 1 = nI (k + 1) from nI_add _ 1) (by decide) rfl (fun ls hl => ?_)
          refine lv_goto (tgt := 3) hx hb dX4_allMastersTold_33 (by decide) ?_
          exact ih1 (k + 1) ls (by omega) (by omega) (fi_miss hk (fun h => h c2)) (lv_sub hl [0, 1, 2, 3, 4] rfl)
        ·
          refine lv_iconst (v := nI 0) hx hb dX4_allMastersTold_28 (by decide) ?_
          exact hret _ _ _ ((bI_f (fun h => by rw [fi_hit hk c2 (by omega)] at h; cases h)).symm) dX4_allMastersTold_29
  exact loop1 (n + 1) 0 ls (by omega) (by omega) rfl (lv_sub hl [0, 1, 2, 3, 4] rfl)

theorem ixX4_firstWrong_X1 : ∀ w ∈ wsX10, w ∈ wsX4_firstWrong := fun _ h => List.mem_cons_of_mem _ (List.mem_append_left _ (List.mem_append_left _ (List.mem_append_right _ h)))
theorem ixX4_firstWrong_X4 : ∀ w ∈ wsX40, w ∈ wsX4_firstWrong := fun _ h => List.mem_cons_of_mem _ (List.mem_append_left _ (List.mem_append_right _ h))
theorem lkX4_firstWrong_12 : Cond.fieldLink RX4 12 (TX4 0).1 (TX4 0).2.1 (TX4 0).2.2.1 ∈ wsX4_firstWrong := List.mem_of_getElem? (i := 1) rfl
set_option maxHeartbeats 4000000 in
set_option maxRecDepth 100000 in
theorem kX4_firstWrong (l : Launch) (G : Gl) (x : Nat) (st : Nat) (tr : Nat) (ra : Nat) (sa : Nat) (R : Nat) (tc : Int32) (fl : Int32) (ap : Nat) (ak : Nat) (ao : Nat) (M : Nat) (B : Nat) (P : Nat → Int32) (U : Nat → Int32) (sh : Nat) (sc : Nat) (ln : Int32) (L : Nat) (F : Nat → Int32) (b : Nat) (i : Nat) (n : Nat) (hM : M ≤ 5) (hL : L ≤ 60) (hin : i + n ≤ L) (hn40 : n ≤ 40) (hb4 : b < 4) (hu : vp_in (U b) M) (hz : ∀ j, j < M → P (j * 5 + j) = nI 0) : Rd l G yX4_firstWrong wsX4_firstWrong ({ frames := 4, cells := 0, slots := 0, locals := 92 } : Room) [.ref x, .int (nI b), .ref sh, .int (nI i), .int (nI n)] [(x, .inr (4, [.ref st, .ref tr, .ref ra, .int (nI R), .ref sa, .int tc, .int fl])), (st, .inr (2, [.ref ap, .ref ak, .ref ao, .int (nI M), .int (nI B)])), (ap, aI G 25 P), (ao, aI G 4 U), (sh, .inr (1, [.ref sc, .int ln, .int (nI L)])), (sc, aI G 60 F)] (some (.int (fiA (fi (fun t => ¬ F (i + t) = nI (wh P M (tn (U b)) t)) n) nI (-9)))) := by
  refine Rd.ofI (cc := cX4_firstWrong) (maxL := 6) (by decide) rfl (Nat.le_of_ble_eq_true rfl) ?_
  intro p e s m below meth c Q ls hE hP hK hl hret
  obtain ⟨hx, hb, hml, hown, hts⟩ := id hE
  have hl : lv_has ls 6 [(0, .ref x), (1, .int (nI b)), (2, .ref sh), (3, .int (nI i)), (4, .int (nI n))] := hl
  refine lv_iconst (v := nI 0) hx hb dX4_firstWrong_0 (by decide) ?_
  refine lv_istore (lv' := [(5, .int (nI 0)), (0, .ref x), (1, .int (nI b)), (2, .ref sh), (3, .int (nI i)), (4, .int (nI n))]) hx hb dX4_firstWrong_1 hl (by decide) rfl (fun ls hl => ?_)
  have loop1 : ∀ (d k : Nat) (ls : Array Slot), n < k + d → k ≤ n → (fi (fun t => ¬ F (i + t) = nI (wh P M (tn (U b)) t)) k = none) → lv_has ls 6 [(5, .int (nI k)), (0, .ref x), (1, .int (nI b)), (2, .ref sh), (3, .int (nI i)), (4, .int (nI n))] → W p l e ({ frames := 4, cells := 0, slots := 0, locals := 92 } : Room) s m ([.ref x, .int (nI b), .ref sh, .int (nI i), .int (nI n)] : List Value).toArray below meth c s.heap [] 0 0 Q (F0 m 3 ls []) := by
    intro d
    induction d with
    | zero =>
      intro k ls h1 h2
      omega
    | succ d ih1 =>
      intro k ls hdk hbk hk hl
      refine lv_iload hx hb dX4_firstWrong_3 (lv_at hl 0 rfl) ?_
      refine lv_iload hx hb dX4_firstWrong_5 (lv_at hl 5 rfl) ?_
      refine ic_ge (tgt := 41) hx hb (by omega) (by omega) dX4_firstWrong_7 (by decide) (fun c1 => ?_) (fun c1 => ?_)
      ·
        obtain rfl : n = k := by omega
        refine lv_bipush (v := (-9)) hx hb dX4_firstWrong_41 (by decide) ?_
        exact hret _ _ _ (by rw [hk]; rfl) dX4_firstWrong_43
      ·
        refine lv_aload_n hx hb dX4_firstWrong_10 rfl (lv_at hl 3 rfl) ?_
        refine g_getN (v := .ref sc) hx hb hts ixX4_firstWrong_X1 hown hK hP 4 rfl rfl 0 (by decide) nkX4_139 rfl dX4_firstWrong_11 ?_
        refine lv_iload_n hx hb dX4_firstWrong_14 rfl (lv_at hl 4 rfl) ?_
        refine lv_iload hx hb dX4_firstWrong_15 (lv_at hl 0 rfl) ?_
        refine lv_iadd hx hb dX4_firstWrong_17 ?_
        refine lv_tope (show (nI i) + (nI k) = nI (i + k) from nI_add _ _) ?_
        refine n_ald hx hb hK hP 5 rfl (k := i + k) (by omega) (by decide) dX4_firstWrong_18 ?_
        refine lv_aload_n hx hb dX4_firstWrong_19 rfl (lv_at hl 1 rfl) ?_
        refine g_get (v := .ref st) hx hb hts ixX4_firstWrong_X4 hown hK hP 0 rfl rfl 0 (by decide) lkX4_firstWrong_12 rfl dX4_firstWrong_20 ?_
        refine lv_iload_n hx hb dX4_firstWrong_23 rfl (lv_at hl 2 rfl) ?_
        refine lv_iload hx hb dX4_firstWrong_24 (lv_at hl 0 rfl) ?_
        refine rdV (As := [.int (nI b), .int (nI k)]) (rest := [.int (F (i + k))]) (ci := 2) (q0 := 1) hE (kX2_masterBehind l G st ap ak ao M B P U b k hM hb4 hu (by first | omega | assumption) hz) (cwV 2 hts gX4_firstWrong_X2_masterBehind rfl rfl rfl (by decide +kernel) ⟨Nat.le_of_ble_eq_true rfl, Nat.le_of_ble_eq_true rfl⟩) hP hK [1, 2, 3] rfl rfl rfl rfl hl.1 rfl (Nat.le_of_ble_eq_true rfl) dX4_firstWrong_26 ⟨Nat.zero_le _, Nat.zero_le _⟩ ?_
        refine W.eq (g2 := F0 m 29 ls [.int (nI (wh P M (tn (U b)) k)), .int (F (i + k))]) rfl ?_
        refine lv_icmp_eq (tgt := 35) hx hb dX4_firstWrong_29 (by decide) (fun c2 => ?_) (fun c2 => ?_)
        ·
          refine lv_iinc (v := nI (k + 1)) (lv' := [(5, .int (nI (k + 1))), (0, .ref x), (1, .int (nI b)), (2, .ref sh), (3, .int (nI i)), (4, .int (nI n))]) hx hb dX4_firstWrong_35 hl (k := 0) rfl (show nI k + Int32.ofInt 1 = nI (k + 1) from nI_add _ 1) (by decide) rfl (fun ls hl => ?_)
          refine lv_goto (tgt := 3) hx hb dX4_firstWrong_38 (by decide) ?_
          exact ih1 (k + 1) ls (by omega) (by omega) (fi_miss hk (fun h => h c2)) (lv_sub hl [0, 1, 2, 3, 4, 5] rfl)
        ·
          refine lv_iload hx hb dX4_firstWrong_32 (lv_at hl 0 rfl) ?_
          exact hret _ _ _ (by rw [fi_hit hk c2 (by omega)]; rfl) dX4_firstWrong_34
  exact loop1 (n + 1) 0 ls (by omega) (by omega) rfl (lv_sub hl [0, 1, 2, 3, 4, 5] rfl)

theorem ixX4_walk_X4 : ∀ w ∈ wsX40, w ∈ wsX4_walk := fun _ h => List.mem_cons_of_mem _ (List.mem_append_left _ (List.mem_append_left _ (List.mem_append_right _ h)))
theorem lkX4_walk_12 : Cond.fieldLink RX4 12 (TX4 0).1 (TX4 0).2.1 (TX4 0).2.2.1 ∈ wsX4_walk := List.mem_of_getElem? (i := 1) rfl
theorem lkX4_walk_33 : Cond.fieldLink RX4 33 (TX4 4).1 (TX4 4).2.1 (TX4 4).2.2.1 ∈ wsX4_walk := List.mem_of_getElem? (i := 2) rfl
theorem lkX4_walk_40 : Cond.fieldLink RX4 40 (TX4 6).1 (TX4 6).2.1 (TX4 6).2.2.1 ∈ wsX4_walk := List.mem_of_getElem? (i := 3) rfl
set_option maxHeartbeats 4000000 in
set_option maxRecDepth 100000 in
theorem kX4_walk (l : Launch) (G : Gl) (x : Nat) (st : Nat) (tr : Nat) (ra : Nat) (sa : Nat) (R : Nat) (tc : Int32) (fl : Int32) (ap : Nat) (ak : Nat) (ao : Nat) (M : Nat) (B : Nat) (P : Nat → Int32) (U : Nat → Int32) (SA : Nat → Option Nat) (sh : Nat) (sc : Nat) (ln : Int32) (L : Nat) (F : Nat → Int32) (b : Int32) (k : Int32) (lane : Int32) (i : Int32) (n : Int32) (hM : M ≤ 5) (hB : B ≤ 4) (hz : ∀ j, j < M → P (j * 5 + j) = nI 0) (hU : ∀ b, b < B → vp_in (U b) M) (hsh : ∀ j, j < 4 → k = nI j → SA j = some sh) (hL : L ≤ 60) : Wt l G yX4_walk wsX4_walk ({ frames := 5, cells := 0, slots := 0, locals := 117 } : Room) [.ref x, .int b, .int k, .int lane, .int i, .int n] [(x, .inr (4, [.ref st, .ref tr, .ref ra, .int (nI R), .ref sa, .int tc, .int fl])), (st, .inr (2, [.ref ap, .ref ak, .ref ao, .int (nI M), .int (nI B)])), (ap, aI G 25 P), (ao, aI G 4 U), (sa, aS G 4 SA), (sh, .inr (1, [.ref sc, .int ln, .int (nI L)])), (sc, aI G 60 F)] [(x, .inr (4, [.ref st, .ref tr, .ref ra, .int (nI R), .ref sa, .int tc, .int (f_walk B (ft (-1) ln L lane i n) b k lane n)])), (st, .inr (2, [.ref ap, .ref ak, .ref ao, .int (nI M), .int (nI B)])), (ap, aI G 25 P), (ao, aI G 4 U), (sa, aS G 4 SA), (sh, .inr (1, [.ref sc, .int ln, .int (nI L)])), (sc, aI G 60 F)] (some (.int (s_walk B M P U (fun t => F (tn i + t)) (ft (-1) ln L lane i n) b k lane n))) := by
  refine Wt.ofI (cc := cX4_walk) (maxL := 8) (by decide) rfl (Nat.le_of_ble_eq_true rfl) ?_
  intro p e s m below meth c Q A ls hE hP hK hD hS hl hret
  obtain ⟨hx, hb, hml, hown, hts⟩ := id hE
  have hl : lv_has ls 8 [(0, .ref x), (1, .int b), (2, .int k), (3, .int lane), (4, .int i), (5, .int n)] := hl
  refine lv_aload_n hx hb dX4_walk_0 rfl (lv_at hl 0 rfl) ?_
  refine g_get (v := .ref st) hx hb hts ixX4_walk_X4 hown hK hP 0 rfl rfl 0 (by decide) lkX4_walk_12 rfl dX4_walk_1 ?_
  refine lv_iload_n hx hb dX4_walk_4 rfl (lv_at hl 1 rfl) ?_
  refine rdV (As := [.int b]) (rest := []) (ci := 2) (q0 := 1) hE (kX2_hasBoy l G st ap ak ao M B b hB) (cwV 1 hts gX4_walk_X2_hasBoy rfl rfl rfl (by decide +kernel) ⟨Nat.le_of_ble_eq_true rfl, Nat.le_of_ble_eq_true rfl⟩) hP hK [1] rfl rfl rfl rfl hl.1 rfl (Nat.le_of_ble_eq_true rfl) dX4_walk_5 ⟨Nat.zero_le _, Nat.zero_le _⟩ ?_
  refine W.eq (g2 := F0 m 8 ls [.int (bI (vp_in b B))]) rfl ?_
  refine bz_eq (tgt := 18) hx hb dX4_walk_8 (by decide) (fun c1 => ?_) (fun c1 => ?_)
  ·
    refine lv_aload_n hx hb dX4_walk_18 rfl (lv_at hl 0 rfl) ?_
    refine lv_iconst (v := (-1)) hx hb dX4_walk_19 (by decide) ?_
    refine wtV (As := [.int (-1)]) (rest := []) (ci := 4) (q0 := 0) hE (kX4_refused l G x st tr ra sa R tc fl (-1) ) (cwV 1 hts gX4_walk_X4_refused rfl rfl rfl (by decide +kernel) ⟨Nat.le_of_ble_eq_true rfl, Nat.le_of_ble_eq_true rfl⟩) hP hK hD hS [0] (by decide) rfl (Eq.trans (b := [x]) rfl rfl) (W1 := [(x, .inr (4, [.ref st, .ref tr, .ref ra, .int (nI R), .ref sa, .int tc, .int (nI 0)])), (st, .inr (2, [.ref ap, .ref ak, .ref ao, .int (nI M), .int (nI B)])), (ap, aI G 25 P), (ao, aI G 4 U), (sa, aS G 4 SA), (sh, .inr (1, [.ref sc, .int ln, .int (nI L)])), (sc, aI G 60 F)]) rfl rfl rfl rfl hl.1 rfl (Nat.le_of_ble_eq_true rfl) dX4_walk_20 ⟨Nat.zero_le _, Nat.zero_le _⟩ (fun H locs hP hD hS => ?_)
    refine W.eq (g2 := F0 m 23 ls [.int (-1)]) rfl ?_
    exact hret _ _ _ _ _ (by first | with_reducible rfl | (simp only [s_walk, f_walk, wkv, iF_f c1]; done) | contradiction) (by first | with_reducible exact hP | (simp only [s_walk, f_walk, wkv, iF_f c1]; with_reducible exact hP) | contradiction | (simp only [s_walk, f_walk, wkv, iF_f c1]; exact hP) | exact hP) hS dX4_walk_23
  ·
    obtain ⟨jb, hjb, rfl⟩ := vp_in_of c1 (by omega)
    refine lv_iload_n hx hb dX4_walk_11 rfl (lv_at hl 2 rfl) ?_
    refine rdS (As := [.int k]) (rest := []) hE (kX4_isSheet l G k ) (va_cwS 1 hts gX4_walk_X4_isSheet rfl rfl rfl (by decide +kernel) ⟨Nat.le_of_ble_eq_true rfl, Nat.le_of_ble_eq_true rfl⟩) hP hK [] rfl rfl hl.1 rfl (Nat.le_of_ble_eq_true rfl) dX4_walk_12 ⟨Nat.zero_le _, Nat.zero_le _⟩ ?_
    refine W.eq (g2 := F0 m 15 ls [.int (bI (vp_in k 4))]) rfl ?_
    refine bz_ne (tgt := 24) hx hb dX4_walk_15 (by decide) (fun c2 => ?_) (fun c2 => ?_)
    ·
      obtain ⟨jk, hjk, rfl⟩ := vp_in_of c2 (by omega)
      refine lv_iload_n hx hb dX4_walk_24 rfl (lv_at hl 3 rfl) ?_
      refine rdS (As := [.int lane]) (rest := []) hE (kX4_isLane l G lane ) (va_cwS 1 hts gX4_walk_X4_isLane rfl rfl rfl (by decide +kernel) ⟨Nat.le_of_ble_eq_true rfl, Nat.le_of_ble_eq_true rfl⟩) hP hK [] rfl rfl hl.1 rfl (Nat.le_of_ble_eq_true rfl) dX4_walk_25 ⟨Nat.zero_le _, Nat.zero_le _⟩ ?_
      refine W.eq (g2 := F0 m 28 ls [.int (bI (vp_in lane (2 + 1)))]) rfl ?_
      refine bz_eq (tgt := 41) hx hb dX4_walk_28 (by decide) (fun c3 => ?_) (fun c3 => ?_)
      ·
        refine lv_aload_n hx hb dX4_walk_41 rfl (lv_at hl 0 rfl) ?_
        refine lv_bipush (v := (-2)) hx hb dX4_walk_42 (by decide) ?_
        refine wtV (As := [.int (-2)]) (rest := []) (ci := 4) (q0 := 0) hE (kX4_refused l G x st tr ra sa R tc fl (-2) ) (cwV 1 hts gX4_walk_X4_refused rfl rfl rfl (by decide +kernel) ⟨Nat.le_of_ble_eq_true rfl, Nat.le_of_ble_eq_true rfl⟩) hP hK hD hS [0] (by decide) rfl (Eq.trans (b := [x]) rfl rfl) (W1 := [(x, .inr (4, [.ref st, .ref tr, .ref ra, .int (nI R), .ref sa, .int tc, .int (nI 0)])), (st, .inr (2, [.ref ap, .ref ak, .ref ao, .int (nI M), .int (nI B)])), (ap, aI G 25 P), (ao, aI G 4 U), (sa, aS G 4 SA), (sh, .inr (1, [.ref sc, .int ln, .int (nI L)])), (sc, aI G 60 F)]) rfl rfl rfl rfl hl.1 rfl (Nat.le_of_ble_eq_true rfl) dX4_walk_44 ⟨Nat.zero_le _, Nat.zero_le _⟩ (fun H locs hP hD hS => ?_)
        refine W.eq (g2 := F0 m 47 ls [.int (-2)]) rfl ?_
        exact hret _ _ _ _ _ (by first | with_reducible rfl | (simp only [s_walk, f_walk, wkv, iF_t c1, iF_t c2, iF_f c3, tn_nI (show jb < 2 ^ 31 by omega), tn_nI (show jk < 2 ^ 31 by omega)]; done) | contradiction) (by first | with_reducible exact hP | (simp only [s_walk, f_walk, wkv, iF_t c1, iF_t c2, iF_f c3, tn_nI (show jb < 2 ^ 31 by omega), tn_nI (show jk < 2 ^ 31 by omega)]; with_reducible exact hP) | contradiction | (simp only [s_walk, f_walk, wkv, iF_t c1, iF_t c2, iF_f c3, tn_nI (show jb < 2 ^ 31 by omega), tn_nI (show jk < 2 ^ 31 by omega)]; exact hP) | exact hP) hS dX4_walk_47
      ·
        refine lv_iload hx hb dX4_walk_31 (lv_at hl 5 rfl) ?_
        refine lv_bipush (v := nI 40) hx hb dX4_walk_33 (by decide) ?_
        refine rdS (As := [.int n, .int (nI 40)]) (rest := []) hE (kX4_isWithin l G n 40 (by first | omega | assumption | exact hU _ (by omega) | exact hz _ (by omega) | exact hK3 _ (by omega))) (va_cwS 2 hts gX4_walk_X4_isWithin rfl rfl rfl (by decide +kernel) ⟨Nat.le_of_ble_eq_true rfl, Nat.le_of_ble_eq_true rfl⟩) hP hK [] rfl rfl hl.1 rfl (Nat.le_of_ble_eq_true rfl) dX4_walk_35 ⟨Nat.zero_le _, Nat.zero_le _⟩ ?_
        refine W.eq (g2 := F0 m 38 ls [.int (bI (vp_in n (40 + 1)))]) rfl ?_
        refine bz_ne (tgt := 48) hx hb dX4_walk_38 (by decide) (fun c4 => ?_) (fun c4 => ?_)
        ·
          obtain ⟨jn, hjn, rfl⟩ := vp_in_of c4 (by omega)
          refine lv_aload_n hx hb dX4_walk_48 rfl (lv_at hl 0 rfl) ?_
          refine g_get (v := .ref sa) hx hb hts ixX4_walk_X4 hown hK hP 0 rfl rfl 4 (by decide) lkX4_walk_33 rfl dX4_walk_49 ?_
          refine lv_iload_n hx hb dX4_walk_52 rfl (lv_at hl 2 rfl) ?_
          refine n_aldS hx hb hK hP 4 rfl (k := jk) (x := sh) (by omega) (by decide) (hsh jk (by omega) rfl) dX4_walk_53 ?_
          refine lv_astore (lv' := [(6, .ref sh), (0, .ref x), (1, .int (nI jb)), (2, .int (nI jk)), (3, .int lane), (4, .int i), (5, .int (nI jn))]) hx hb dX4_walk_54 hl (by decide) rfl (fun ls hl => ?_)
          refine lv_aload hx hb dX4_walk_56 (lv_at hl 0 rfl) ?_
          refine lv_iload_n hx hb dX4_walk_58 rfl (lv_at hl 4 rfl) ?_
          refine lv_iload hx hb dX4_walk_59 (lv_at hl 5 rfl) ?_
          refine lv_iload hx hb dX4_walk_61 (lv_at hl 6 rfl) ?_
          refine rdV (As := [.int lane, .int i, .int (nI jn)]) (rest := []) (ci := 1) (q0 := 5) hE (kX1_faultOfTaking l G sh sc ln L lane i (nI jn) ) (cwV 3 hts gX4_walk_X1_faultOfTaking rfl rfl rfl (by decide +kernel) ⟨Nat.le_of_ble_eq_true rfl, Nat.le_of_ble_eq_true rfl⟩) hP hK [5] rfl rfl rfl rfl hl.1 rfl (Nat.le_of_ble_eq_true rfl) dX4_walk_63 ⟨Nat.zero_le _, Nat.zero_le _⟩ ?_
          refine W.eq (g2 := F0 m 66 ls [.int (ft (-1) ln L lane i (nI jn))]) rfl ?_
          refine lv_istore (lv' := [(7, .int (ft (-1) ln L lane i (nI jn))), (6, .ref sh), (0, .ref x), (1, .int (nI jb)), (2, .int (nI jk)), (3, .int lane), (4, .int i), (5, .int (nI jn))]) hx hb dX4_walk_66 hl (by decide) rfl (fun ls hl => ?_)
          refine lv_iload hx hb dX4_walk_68 (lv_at hl 0 rfl) ?_
          refine lv_if_eq (tgt := 80) hx hb dX4_walk_70 (by decide) (fun c5 => ?_) (fun c5 => ?_)
          ·
            obtain ⟨ji, jn9, rfl, en9, hin9⟩ := hc_of (ft_hc c5).2.2 (by omega)
            have hn9 : jn = jn9 := (nI_eq (by omega) (by omega)).mp en9
            refine lv_aload_n hx hb dX4_walk_80 rfl (lv_at hl 2 rfl) ?_
            refine lv_iconst (v := nI 0) hx hb dX4_walk_81 (by decide) ?_
            refine g_put (v := (nI 0)) hx hb hts ixX4_walk_X4 tyX4 tyX4_ok nmX4 hown hK hP hD hS 0 rfl rfl 6 (by decide) lkX4_walk_40 rfl rfl (Nat.le_of_ble_eq_true rfl) dX4_walk_82 (fun H locs hP hD hS => ?_)
            have hP : va_P G.1 vwCl [(x, .inr (4, [.ref st, .ref tr, .ref ra, .int (nI R), .ref sa, .int tc, .int (nI 0)])), (st, .inr (2, [.ref ap, .ref ak, .ref ao, .int (nI M), .int (nI B)])), (ap, aI G 25 P), (ao, aI G 4 U), (sa, aS G 4 SA), (sh, .inr (1, [.ref sc, .int ln, .int (nI L)])), (sc, aI G 60 F)] H := hP
            have hD : va_D A [(x, .inr (4, [.ref st, .ref tr, .ref ra, .int (nI R), .ref sa, .int tc, .int (nI 0)])), (st, .inr (2, [.ref ap, .ref ak, .ref ao, .int (nI M), .int (nI B)])), (ap, aI G 25 P), (ao, aI G 4 U), (sa, aS G 4 SA), (sh, .inr (1, [.ref sc, .int ln, .int (nI L)])), (sc, aI G 60 F)] := hD
            refine lv_aload_n hx hb dX4_walk_85 rfl (lv_at hl 2 rfl) ?_
            refine lv_aload hx hb dX4_walk_86 (lv_at hl 1 rfl) ?_
            refine lv_iload hx hb dX4_walk_88 (lv_at hl 6 rfl) ?_
            refine lv_iload hx hb dX4_walk_90 (lv_at hl 7 rfl) ?_
            refine rdV (As := [.ref sh, .int (nI ji), .int (nI jn)]) (rest := []) (ci := 4) (q0 := 0) hE (kX4_allMastersTold l G x st tr ra sa R tc (nI 0) ap ak ao M B sh sc ln L F ji jn hM hL (by first | omega | assumption | exact hU _ (by omega) | exact hz _ (by omega) | exact hK3 _ (by omega))) (cwV 3 hts gX4_walk_X4_allMastersTold rfl rfl rfl (by decide +kernel) ⟨Nat.le_of_ble_eq_true rfl, Nat.le_of_ble_eq_true rfl⟩) hP hK [0, 1, 5, 6] rfl rfl rfl rfl hl.1 rfl (Nat.le_of_ble_eq_true rfl) dX4_walk_92 ⟨Nat.zero_le _, Nat.zero_le _⟩ ?_
            refine W.eq (g2 := F0 m 95 ls [.int (bI (fi (fun t => ¬ vp_in (F (ji + t)) M) jn = none))]) rfl ?_
            refine bz_eq (tgt := 112) hx hb dX4_walk_95 (by decide) (fun c6 => ?_) (fun c6 => ?_)
            ·
              refine lv_iconst (v := (-1)) hx hb dX4_walk_112 (by decide) ?_
              exact hret _ _ _ _ _ (by first | with_reducible rfl | (simp only [s_walk, f_walk, wkv, iF_t c1, iF_t c2, iF_t c3, iF_t c4, iF_t c5, iF_f c6, tn_nI (show jb < 2 ^ 31 by omega), tn_nI (show jk < 2 ^ 31 by omega), tn_nI (show jn < 2 ^ 31 by omega), tn_nI (show ji < 2 ^ 31 by omega)]; done) | contradiction) (by first | with_reducible exact hP | (simp only [s_walk, f_walk, wkv, iF_t c1, iF_t c2, iF_t c3, iF_t c4, iF_t c5, iF_f c6, tn_nI (show jb < 2 ^ 31 by omega), tn_nI (show jk < 2 ^ 31 by omega), tn_nI (show jn < 2 ^ 31 by omega), tn_nI (show ji < 2 ^ 31 by omega)]; with_reducible exact hP) | contradiction | (simp only [s_walk, f_walk, wkv, iF_t c1, iF_t c2, iF_t c3, iF_t c4, iF_t c5, iF_f c6, tn_nI (show jb < 2 ^ 31 by omega), tn_nI (show jk < 2 ^ 31 by omega), tn_nI (show jn < 2 ^ 31 by omega), tn_nI (show ji < 2 ^ 31 by omega)]; exact hP) | exact hP) hS dX4_walk_113
            ·
              refine lv_aload_n hx hb dX4_walk_98 rfl (lv_at hl 2 rfl) ?_
              refine lv_iload_n hx hb dX4_walk_99 rfl (lv_at hl 3 rfl) ?_
              refine lv_aload hx hb dX4_walk_100 (lv_at hl 1 rfl) ?_
              refine lv_iload hx hb dX4_walk_102 (lv_at hl 6 rfl) ?_
              refine lv_iload hx hb dX4_walk_104 (lv_at hl 7 rfl) ?_
              refine rdV (As := [.int (nI jb), .ref sh, .int (nI ji), .int (nI jn)]) (rest := []) (ci := 4) (q0 := 0) hE (kX4_firstWrong l G x st tr ra sa R tc (nI 0) ap ak ao M B P U sh sc ln L F jb ji jn hM hL (by first | omega | assumption | exact hU _ (by omega) | exact hz _ (by omega) | exact hK3 _ (by omega)) (by first | omega | assumption | exact hU _ (by omega) | exact hz _ (by omega) | exact hK3 _ (by omega)) (by first | omega | assumption | exact hU _ (by omega) | exact hz _ (by omega) | exact hK3 _ (by omega)) (by first | omega | assumption | exact hU _ (by omega) | exact hz _ (by omega) | exact hK3 _ (by omega)) hz) (cwV 4 hts gX4_walk_X4_firstWrong rfl rfl rfl (by decide +kernel) ⟨Nat.le_of_ble_eq_true rfl, Nat.le_of_ble_eq_true rfl⟩) hP hK [0, 1, 2, 3, 5, 6] rfl rfl rfl rfl hl.1 rfl (Nat.le_of_ble_eq_true rfl) dX4_walk_106 ⟨Nat.zero_le _, Nat.zero_le _⟩ ?_
              refine W.eq (g2 := F0 m 109 ls [.int (fiA (fi (fun t => ¬ F (ji + t) = nI (wh P M (tn (U jb)) t)) jn) nI (-9))]) rfl ?_
              refine lv_goto (tgt := 113) hx hb dX4_walk_109 (by decide) ?_
              exact hret _ _ _ _ _ (by first | with_reducible rfl | (simp only [s_walk, f_walk, wkv, iF_t c1, iF_t c2, iF_t c3, iF_t c4, iF_t c5, iF_t c6, tn_nI (show jb < 2 ^ 31 by omega), tn_nI (show jk < 2 ^ 31 by omega), tn_nI (show jn < 2 ^ 31 by omega), tn_nI (show ji < 2 ^ 31 by omega)]; done) | contradiction) (by first | with_reducible exact hP | (simp only [s_walk, f_walk, wkv, iF_t c1, iF_t c2, iF_t c3, iF_t c4, iF_t c5, iF_t c6, tn_nI (show jb < 2 ^ 31 by omega), tn_nI (show jk < 2 ^ 31 by omega), tn_nI (show jn < 2 ^ 31 by omega), tn_nI (show ji < 2 ^ 31 by omega)]; with_reducible exact hP) | contradiction | (simp only [s_walk, f_walk, wkv, iF_t c1, iF_t c2, iF_t c3, iF_t c4, iF_t c5, iF_t c6, tn_nI (show jb < 2 ^ 31 by omega), tn_nI (show jk < 2 ^ 31 by omega), tn_nI (show jn < 2 ^ 31 by omega), tn_nI (show ji < 2 ^ 31 by omega)]; exact hP) | exact hP) hS dX4_walk_113
          ·
            refine lv_aload_n hx hb dX4_walk_73 rfl (lv_at hl 2 rfl) ?_
            refine lv_iload hx hb dX4_walk_74 (lv_at hl 0 rfl) ?_
            refine wtV (As := [.int (ft (-1) ln L lane i (nI jn))]) (rest := []) (ci := 4) (q0 := 0) hE (kX4_faulted l G x st tr ra sa R tc fl (ft (-1) ln L lane i (nI jn)) ) (cwV 1 hts gX4_walk_X4_faulted rfl rfl rfl (by decide +kernel) ⟨Nat.le_of_ble_eq_true rfl, Nat.le_of_ble_eq_true rfl⟩) hP hK hD hS [0] (by decide) rfl (Eq.trans (b := [x]) rfl rfl) (W1 := [(x, .inr (4, [.ref st, .ref tr, .ref ra, .int (nI R), .ref sa, .int tc, .int (ft (-1) ln L lane i (nI jn))])), (st, .inr (2, [.ref ap, .ref ak, .ref ao, .int (nI M), .int (nI B)])), (ap, aI G 25 P), (ao, aI G 4 U), (sa, aS G 4 SA), (sh, .inr (1, [.ref sc, .int ln, .int (nI L)])), (sc, aI G 60 F)]) rfl rfl rfl rfl hl.1 rfl (Nat.le_of_ble_eq_true rfl) dX4_walk_76 ⟨Nat.zero_le _, Nat.zero_le _⟩ (fun H locs hP hD hS => ?_)
            refine W.eq (g2 := F0 m 79 ls [.int ((-10) - (ft (-1) ln L lane i (nI jn)))]) rfl ?_
            exact hret _ _ _ _ _ (by first | with_reducible rfl | (simp only [s_walk, f_walk, wkv, iF_t c1, iF_t c2, iF_t c3, iF_t c4, iF_f c5, tn_nI (show jb < 2 ^ 31 by omega), tn_nI (show jk < 2 ^ 31 by omega), tn_nI (show jn < 2 ^ 31 by omega)]; done) | contradiction) (by first | with_reducible exact hP | (simp only [s_walk, f_walk, wkv, iF_t c1, iF_t c2, iF_t c3, iF_t c4, iF_f c5, tn_nI (show jb < 2 ^ 31 by omega), tn_nI (show jk < 2 ^ 31 by omega), tn_nI (show jn < 2 ^ 31 by omega)]; with_reducible exact hP) | contradiction | (simp only [s_walk, f_walk, wkv, iF_t c1, iF_t c2, iF_t c3, iF_t c4, iF_f c5, tn_nI (show jb < 2 ^ 31 by omega), tn_nI (show jk < 2 ^ 31 by omega), tn_nI (show jn < 2 ^ 31 by omega)]; exact hP) | exact hP) hS dX4_walk_79
        ·
          refine lv_aload_n hx hb dX4_walk_41 rfl (lv_at hl 0 rfl) ?_
          refine lv_bipush (v := (-2)) hx hb dX4_walk_42 (by decide) ?_
          refine wtV (As := [.int (-2)]) (rest := []) (ci := 4) (q0 := 0) hE (kX4_refused l G x st tr ra sa R tc fl (-2) ) (cwV 1 hts gX4_walk_X4_refused rfl rfl rfl (by decide +kernel) ⟨Nat.le_of_ble_eq_true rfl, Nat.le_of_ble_eq_true rfl⟩) hP hK hD hS [0] (by decide) rfl (Eq.trans (b := [x]) rfl rfl) (W1 := [(x, .inr (4, [.ref st, .ref tr, .ref ra, .int (nI R), .ref sa, .int tc, .int (nI 0)])), (st, .inr (2, [.ref ap, .ref ak, .ref ao, .int (nI M), .int (nI B)])), (ap, aI G 25 P), (ao, aI G 4 U), (sa, aS G 4 SA), (sh, .inr (1, [.ref sc, .int ln, .int (nI L)])), (sc, aI G 60 F)]) rfl rfl rfl rfl hl.1 rfl (Nat.le_of_ble_eq_true rfl) dX4_walk_44 ⟨Nat.zero_le _, Nat.zero_le _⟩ (fun H locs hP hD hS => ?_)
          refine W.eq (g2 := F0 m 47 ls [.int (-2)]) rfl ?_
          exact hret _ _ _ _ _ (by first | with_reducible rfl | (simp only [s_walk, f_walk, wkv, iF_t c1, iF_t c2, iF_t c3, iF_f c4, tn_nI (show jb < 2 ^ 31 by omega), tn_nI (show jk < 2 ^ 31 by omega)]; done) | contradiction) (by first | with_reducible exact hP | (simp only [s_walk, f_walk, wkv, iF_t c1, iF_t c2, iF_t c3, iF_f c4, tn_nI (show jb < 2 ^ 31 by omega), tn_nI (show jk < 2 ^ 31 by omega)]; with_reducible exact hP) | contradiction | (simp only [s_walk, f_walk, wkv, iF_t c1, iF_t c2, iF_t c3, iF_f c4, tn_nI (show jb < 2 ^ 31 by omega), tn_nI (show jk < 2 ^ 31 by omega)]; exact hP) | exact hP) hS dX4_walk_47
    ·
      refine lv_aload_n hx hb dX4_walk_18 rfl (lv_at hl 0 rfl) ?_
      refine lv_iconst (v := (-1)) hx hb dX4_walk_19 (by decide) ?_
      refine wtV (As := [.int (-1)]) (rest := []) (ci := 4) (q0 := 0) hE (kX4_refused l G x st tr ra sa R tc fl (-1) ) (cwV 1 hts gX4_walk_X4_refused rfl rfl rfl (by decide +kernel) ⟨Nat.le_of_ble_eq_true rfl, Nat.le_of_ble_eq_true rfl⟩) hP hK hD hS [0] (by decide) rfl (Eq.trans (b := [x]) rfl rfl) (W1 := [(x, .inr (4, [.ref st, .ref tr, .ref ra, .int (nI R), .ref sa, .int tc, .int (nI 0)])), (st, .inr (2, [.ref ap, .ref ak, .ref ao, .int (nI M), .int (nI B)])), (ap, aI G 25 P), (ao, aI G 4 U), (sa, aS G 4 SA), (sh, .inr (1, [.ref sc, .int ln, .int (nI L)])), (sc, aI G 60 F)]) rfl rfl rfl rfl hl.1 rfl (Nat.le_of_ble_eq_true rfl) dX4_walk_20 ⟨Nat.zero_le _, Nat.zero_le _⟩ (fun H locs hP hD hS => ?_)
      refine W.eq (g2 := F0 m 23 ls [.int (-1)]) rfl ?_
      exact hret _ _ _ _ _ (by first | with_reducible rfl | (simp only [s_walk, f_walk, wkv, iF_t c1, iF_f c2, tn_nI (show jb < 2 ^ 31 by omega)]; done) | contradiction) (by first | with_reducible exact hP | (simp only [s_walk, f_walk, wkv, iF_t c1, iF_f c2, tn_nI (show jb < 2 ^ 31 by omega)]; with_reducible exact hP) | contradiction | (simp only [s_walk, f_walk, wkv, iF_t c1, iF_f c2, tn_nI (show jb < 2 ^ 31 by omega)]; exact hP) | exact hP) hS dX4_walk_23
