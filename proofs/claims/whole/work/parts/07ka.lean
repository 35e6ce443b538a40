theorem ixX1_init_X1 : ∀ w ∈ wsX10, w ∈ wsX1_init := fun _ h => List.mem_cons_of_mem _ (List.mem_append_right _ h)
theorem lkX1_init_9 : Cond.fieldLink RX1 9 (TX1 0).1 (TX1 0).2.1 (TX1 0).2.2.1 ∈ wsX1_init := List.mem_of_getElem? (i := 5) rfl
theorem lkX1_init_15 : Cond.fieldLink RX1 15 (TX1 1).1 (TX1 1).2.1 (TX1 1).2.2.1 ∈ wsX1_init := List.mem_of_getElem? (i := 6) rfl
theorem lkX1_init_19 : Cond.fieldLink RX1 19 (TX1 2).1 (TX1 2).2.1 (TX1 2).2.2.1 ∈ wsX1_init := List.mem_of_getElem? (i := 7) rfl
set_option maxHeartbeats 4000000 in
set_option maxRecDepth 100000 in
theorem kX1_init (l : Launch) (G : Gl) (sh : Nat) (f1 : Int32) (f2 : Int32) : Mk l G yX1_init wsX1_init ({ frames := 1, cells := 1, slots := 60, locals := 12 } : Room) 1 60 [.ref sh] [(sh, .inr (1, [.null, .int f1, .int f2]))] (fun rv9 w9 x9 => ∃ (b1 : Nat), rv9 = none ∧ w9 = [(sh, .inr (1, [.ref b1, .int (-1), .int (nI 0)]))] ∧ x9 = [(b1, aI G 60 (fun _ => 0))]) := by
  refine Mk.ofV (cc := cX1_init) (maxL := 1) (by decide) rfl (Nat.le_of_ble_eq_true rfl) ?_
  intro p e s m below meth c Q A ls hE hin hP hK hD hS hA hl hret
  obtain ⟨hx, hb, hml, hown, hts⟩ := id hE
  have hl : lv_has ls 1 [(0, .ref sh)] := hl
  refine lv_aload_n hx hb dX1_init_0 rfl (lv_at hl 0 rfl) ?_
  refine W.objInit hx hb hown (hts (.methodLink RX1 3 objectInit) (List.mem_of_getElem? (i := 1) rfl)) (hts (.instanceMethod objectInit) (List.mem_of_getElem? (i := 2) rfl)) (hts (.code objectInit ⟨#[0xb1]⟩ 1 none) (List.mem_of_getElem? (i := 3) rfl)) rfl (by rw [hml]; exact hl.1) rfl dX1_init_1 (Nat.le_of_ble_eq_true rfl) (Nat.le_of_ble_eq_true rfl) ?_
  refine W.eq (g2 := F0 m 4 ls []) rfl ?_
  refine lv_aload_n hx hb dX1_init_4 rfl (lv_at hl 0 rfl) ?_
  refine lv_bipush (v := nI 60) hx hb dX1_init_5 (by decide) ?_
  refine n_newI hx hb (hts (.arrayClass .int) (List.mem_of_getElem? (i := 4) rfl)) hK hP hD hS hA (N1 := 60) (by decide) (Nat.le_of_ble_eq_true rfl) (Nat.le_of_ble_eq_true rfl) dX1_init_7 (fun na1 H hP hD hS => ?_)
  have hP : va_P G.1 vwCl [(sh, .inr (1, [.null, .int f1, .int f2])), (na1, aI G 60 (fun _ => 0))] H := hP
  have hD : va_D A [(sh, .inr (1, [.null, .int f1, .int f2])), (na1, aI G 60 (fun _ => 0))] := hD
  refine va_putF (D := G.1) (ci := 1) (v := .ref na1) (ty := .array .int) (C := RX1) (T := TX1) (N := 3) hx hb hts ixX1_init_X1 tyX1 tyX1_ok nmX1 hown hK.1 hP hD hS 0 rfl rfl 0 (by decide) (hts _ lkX1_init_9) (fun _ h9 => h9) rfl hin rfl (by decide +kernel) rfl rfl (Nat.le_of_ble_eq_true rfl) dX1_init_9 (fun H locs hP hD hS => ?_)
  have hP : va_P G.1 vwCl [(sh, .inr (1, [.ref na1, .int f1, .int f2])), (na1, aI G 60 (fun _ => 0))] H := hP
  have hD : va_D A [(sh, .inr (1, [.ref na1, .int f1, .int f2])), (na1, aI G 60 (fun _ => 0))] := hD
  refine lv_aload_n hx hb dX1_init_12 rfl (lv_at hl 0 rfl) ?_
  refine lv_iconst (v := (-1)) hx hb dX1_init_13 (by decide) ?_
  refine g_put (v := (-1)) hx hb hts ixX1_init_X1 tyX1 tyX1_ok nmX1 hown hK hP hD hS 0 rfl rfl 1 (by decide) lkX1_init_15 rfl rfl (Nat.le_of_ble_eq_true rfl) dX1_init_14 (fun H locs hP hD hS => ?_)
  have hP : va_P G.1 vwCl [(sh, .inr (1, [.ref na1, .int (-1), .int f2])), (na1, aI G 60 (fun _ => 0))] H := hP
  have hD : va_D A [(sh, .inr (1, [.ref na1, .int (-1), .int f2])), (na1, aI G 60 (fun _ => 0))] := hD
  refine lv_aload_n hx hb dX1_init_17 rfl (lv_at hl 0 rfl) ?_
  refine lv_iconst (v := nI 0) hx hb dX1_init_18 (by decide) ?_
  refine g_put (v := (nI 0)) hx hb hts ixX1_init_X1 tyX1 tyX1_ok nmX1 hown hK hP hD hS 0 rfl rfl 2 (by decide) lkX1_init_19 rfl rfl (Nat.le_of_ble_eq_true rfl) dX1_init_19 (fun H locs hP hD hS => ?_)
  have hP : va_P G.1 vwCl [(sh, .inr (1, [.ref na1, .int (-1), .int (nI 0)])), (na1, aI G 60 (fun _ => 0))] H := hP
  have hD : va_D A [(sh, .inr (1, [.ref na1, .int (-1), .int (nI 0)])), (na1, aI G 60 (fun _ => 0))] := hD
  exact hret _ _ _ _ [(sh, .inr (1, [.ref na1, .int (-1), .int (nI 0)]))] [(na1, aI G 60 (fun _ => 0))] ⟨na1, rfl, rfl, rfl⟩ (Eq.trans (b := [sh]) rfl rfl) hP hD hS dX1_init_22

theorem ixX2_init_X2 : ∀ w ∈ wsX20, w ∈ wsX2_init := fun _ h => List.mem_cons_of_mem _ (List.mem_append_right _ h)
theorem lkX2_init_9 : Cond.fieldLink RX2 9 (TX2 0).1 (TX2 0).2.1 (TX2 0).2.2.1 ∈ wsX2_init := List.mem_of_getElem? (i := 5) rfl
theorem lkX2_init_15 : Cond.fieldLink RX2 15 (TX2 1).1 (TX2 1).2.1 (TX2 1).2.2.1 ∈ wsX2_init := List.mem_of_getElem? (i := 6) rfl
theorem lkX2_init_18 : Cond.fieldLink RX2 18 (TX2 2).1 (TX2 2).2.1 (TX2 2).2.2.1 ∈ wsX2_init := List.mem_of_getElem? (i := 7) rfl
theorem lkX2_init_21 : Cond.fieldLink RX2 21 (TX2 3).1 (TX2 3).2.1 (TX2 3).2.2.1 ∈ wsX2_init := List.mem_of_getElem? (i := 8) rfl
theorem lkX2_init_25 : Cond.fieldLink RX2 25 (TX2 4).1 (TX2 4).2.1 (TX2 4).2.2.1 ∈ wsX2_init := List.mem_of_getElem? (i := 9) rfl
set_option maxHeartbeats 4000000 in
set_option maxRecDepth 100000 in
theorem kX2_init (l : Launch) (G : Gl) (t : Nat) (f1 : Int32) (f2 : Int32) : Mk l G yX2_init wsX2_init ({ frames := 1, cells := 3, slots := 33, locals := 12 } : Room) 3 33 [.ref t] [(t, .inr (2, [.null, .null, .null, .int f1, .int f2]))] (fun rv9 w9 x9 => ∃ (b1 : Nat) (b2 : Nat) (b3 : Nat), rv9 = none ∧ w9 = [(t, .inr (2, [.ref b1, .ref b2, .ref b3, .int (nI 0), .int (nI 0)]))] ∧ x9 = [(b1, aI G 25 (fun _ => 0)), (b2, aI G 4 (fun _ => 0)), (b3, aI G 4 (fun _ => 0))]) := by
  refine Mk.ofV (cc := cX2_init) (maxL := 1) (by decide) rfl (Nat.le_of_ble_eq_true rfl) ?_
  intro p e s m below meth c Q A ls hE hin hP hK hD hS hA hl hret
  obtain ⟨hx, hb, hml, hown, hts⟩ := id hE
  have hl : lv_has ls 1 [(0, .ref t)] := hl
  refine lv_aload_n hx hb dX2_init_0 rfl (lv_at hl 0 rfl) ?_
  refine W.objInit hx hb hown (hts (.methodLink RX2 3 objectInit) (List.mem_of_getElem? (i := 1) rfl)) (hts (.instanceMethod objectInit) (List.mem_of_getElem? (i := 2) rfl)) (hts (.code objectInit ⟨#[0xb1]⟩ 1 none) (List.mem_of_getElem? (i := 3) rfl)) rfl (by rw [hml]; exact hl.1) rfl dX2_init_1 (Nat.le_of_ble_eq_true rfl) (Nat.le_of_ble_eq_true rfl) ?_
  refine W.eq (g2 := F0 m 4 ls []) rfl ?_
  refine lv_aload_n hx hb dX2_init_4 rfl (lv_at hl 0 rfl) ?_
  refine lv_bipush (v := nI 25) hx hb dX2_init_5 (by decide) ?_
  refine n_newI hx hb (hts (.arrayClass .int) (List.mem_of_getElem? (i := 4) rfl)) hK hP hD hS hA (N1 := 25) (by decide) (Nat.le_of_ble_eq_true rfl) (Nat.le_of_ble_eq_true rfl) dX2_init_7 (fun na1 H hP hD hS => ?_)
  have hP : va_P G.1 vwCl [(t, .inr (2, [.null, .null, .null, .int f1, .int f2])), (na1, aI G 25 (fun _ => 0))] H := hP
  have hD : va_D A [(t, .inr (2, [.null, .null, .null, .int f1, .int f2])), (na1, aI G 25 (fun _ => 0))] := hD
  refine va_putF (D := G.1) (ci := 2) (v := .ref na1) (ty := .array .int) (C := RX2) (T := TX2) (N := 5) hx hb hts ixX2_init_X2 tyX2 tyX2_ok nmX2 hown hK.1 hP hD hS 0 rfl rfl 0 (by decide) (hts _ lkX2_init_9) (fun _ h9 => h9) rfl hin rfl (by decide +kernel) rfl rfl (Nat.le_of_ble_eq_true rfl) dX2_init_9 (fun H locs hP hD hS => ?_)
  have hP : va_P G.1 vwCl [(t, .inr (2, [.ref na1, .null, .null, .int f1, .int f2])), (na1, aI G 25 (fun _ => 0))] H := hP
  have hD : va_D A [(t, .inr (2, [.ref na1, .null, .null, .int f1, .int f2])), (na1, aI G 25 (fun _ => 0))] := hD
  refine lv_aload_n hx hb dX2_init_12 rfl (lv_at hl 0 rfl) ?_
  refine lv_iconst (v := nI 4) hx hb dX2_init_13 (by decide) ?_
  refine n_newI hx hb (hts (.arrayClass .int) (List.mem_of_getElem? (i := 4) rfl)) hK hP hD hS hA (N1 := 4) (by decide) (Nat.le_of_ble_eq_true rfl) (Nat.le_of_ble_eq_true rfl) dX2_init_14 (fun na2 H hP hD hS => ?_)
  have hP : va_P G.1 vwCl [(t, .inr (2, [.ref na1, .null, .null, .int f1, .int f2])), (na1, aI G 25 (fun _ => 0)), (na2, aI G 4 (fun _ => 0))] H := hP
  have hD : va_D A [(t, .inr (2, [.ref na1, .null, .null, .int f1, .int f2])), (na1, aI G 25 (fun _ => 0)), (na2, aI G 4 (fun _ => 0))] := hD
  refine va_putF (D := G.1) (ci := 2) (v := .ref na2) (ty := .array .int) (C := RX2) (T := TX2) (N := 5) hx hb hts ixX2_init_X2 tyX2 tyX2_ok nmX2 hown hK.1 hP hD hS 0 rfl rfl 1 (by decide) (hts _ lkX2_init_15) (fun _ h9 => h9) rfl hin rfl (by decide +kernel) rfl rfl (Nat.le_of_ble_eq_true rfl) dX2_init_16 (fun H locs hP hD hS => ?_)
  have hP : va_P G.1 vwCl [(t, .inr (2, [.ref na1, .ref na2, .null, .int f1, .int f2])), (na1, aI G 25 (fun _ => 0)), (na2, aI G 4 (fun _ => 0))] H := hP
  have hD : va_D A [(t, .inr (2, [.ref na1, .ref na2, .null, .int f1, .int f2])), (na1, aI G 25 (fun _ => 0)), (na2, aI G 4 (fun _ => 0))] := hD
  refine lv_aload_n hx hb dX2_init_19 rfl (lv_at hl 0 rfl) ?_
  refine lv_iconst (v := nI 4) hx hb dX2_init_20 (by decide) ?_
  refine n_newI hx hb (hts (.arrayClass .int) (List.mem_of_getElem? (i := 4) rfl)) hK hP hD hS hA (N1 := 4) (by decide) (Nat.le_of_ble_eq_true rfl) (Nat.le_of_ble_eq_true rfl) dX2_init_21 (fun na3 H hP hD hS => ?_)
  have hP : va_P G.1 vwCl [(t, .inr (2, [.ref na1, .ref na2, .null, .int f1, .int f2])), (na1, aI G 25 (fun _ => 0)), (na2, aI G 4 (fun _ => 0)), (na3, aI G 4 (fun _ => 0))] H := hP
  have hD : va_D A [(t, .inr (2, [.ref na1, .ref na2, .null, .int f1, .int f2])), (na1, aI G 25 (fun _ => 0)), (na2, aI G 4 (fun _ => 0)), (na3, aI G 4 (fun _ => 0))] := hD
  refine va_putF (D := G.1) (ci := 2) (v := .ref na3) (ty := .array .int) (C := RX2) (T := TX2) (N := 5) hx hb hts ixX2_init_X2 tyX2 tyX2_ok nmX2 hown hK.1 hP hD hS 0 rfl rfl 2 (by decide) (hts _ lkX2_init_18) (fun _ h9 => h9) rfl hin rfl (by decide +kernel) rfl rfl (Nat.le_of_ble_eq_true rfl) dX2_init_23 (fun H locs hP hD hS => ?_)
  have hP : va_P G.1 vwCl [(t, .inr (2, [.ref na1, .ref na2, .ref na3, .int f1, .int f2])), (na1, aI G 25 (fun _ => 0)), (na2, aI G 4 (fun _ => 0)), (na3, aI G 4 (fun _ => 0))] H := hP
  have hD : va_D A [(t, .inr (2, [.ref na1, .ref na2, .ref na3, .int f1, .int f2])), (na1, aI G 25 (fun _ => 0)), (na2, aI G 4 (fun _ => 0)), (na3, aI G 4 (fun _ => 0))] := hD
  refine lv_aload_n hx hb dX2_init_26 rfl (lv_at hl 0 rfl) ?_
  refine lv_iconst (v := nI 0) hx hb dX2_init_27 (by decide) ?_
  refine g_put (v := (nI 0)) hx hb hts ixX2_init_X2 tyX2 tyX2_ok nmX2 hown hK hP hD hS 0 rfl rfl 3 (by decide) lkX2_init_21 rfl rfl (Nat.le_of_ble_eq_true rfl) dX2_init_28 (fun H locs hP hD hS => ?_)
  have hP : va_P G.1 vwCl [(t, .inr (2, [.ref na1, .ref na2, .ref na3, .int (nI 0), .int f2])), (na1, aI G 25 (fun _ => 0)), (na2, aI G 4 (fun _ => 0)), (na3, aI G 4 (fun _ => 0))] H := hP
  have hD : va_D A [(t, .inr (2, [.ref na1, .ref na2, .ref na3, .int (nI 0), .int f2])), (na1, aI G 25 (fun _ => 0)), (na2, aI G 4 (fun _ => 0)), (na3, aI G 4 (fun _ => 0))] := hD
  refine lv_aload_n hx hb dX2_init_31 rfl (lv_at hl 0 rfl) ?_
  refine lv_iconst (v := nI 0) hx hb dX2_init_32 (by decide) ?_
  refine g_put (v := (nI 0)) hx hb hts ixX2_init_X2 tyX2 tyX2_ok nmX2 hown hK hP hD hS 0 rfl rfl 4 (by decide) lkX2_init_25 rfl rfl (Nat.le_of_ble_eq_true rfl) dX2_init_33 (fun H locs hP hD hS => ?_)
  have hP : va_P G.1 vwCl [(t, .inr (2, [.ref na1, .ref na2, .ref na3, .int (nI 0), .int (nI 0)])), (na1, aI G 25 (fun _ => 0)), (na2, aI G 4 (fun _ => 0)), (na3, aI G 4 (fun _ => 0))] H := hP
  have hD : va_D A [(t, .inr (2, [.ref na1, .ref na2, .ref na3, .int (nI 0), .int (nI 0)])), (na1, aI G 25 (fun _ => 0)), (na2, aI G 4 (fun _ => 0)), (na3, aI G 4 (fun _ => 0))] := hD
  exact hret _ _ _ _ [(t, .inr (2, [.ref na1, .ref na2, .ref na3, .int (nI 0), .int (nI 0)]))] [(na1, aI G 25 (fun _ => 0)), (na2, aI G 4 (fun _ => 0)), (na3, aI G 4 (fun _ => 0))] ⟨na1, na2, na3, rfl, rfl, rfl⟩ (Eq.trans (b := [t]) rfl rfl) hP hD hS dX2_init_36
