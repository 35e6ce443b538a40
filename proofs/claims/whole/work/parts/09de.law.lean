/-! ===== the cases of the law: lose, put, cell ===== -/
set_option maxHeartbeats 4000000 in
set_option maxRecDepth 100000 in
theorem cs_lose {p : Program} {l : Launch} {e : Env} {s : State} {m : MethodId} {below : List Frame} {meth : Method} {c : Code} {Q : State → Prop} {b : Nat} {ls : Array Slot} {G : Gl} {ca ma rr sh sc : Nat → Nat} {RA SA : Nat → Option Nat} {L9 i : Nat} {xs : Nat → Int32} (C : LC p s m c b L9 i xs ls G ca ma rr sh RA SA) (hk : WW p l e s m below meth c Q b ls G ca ma rr sh sc RA SA 1274 (101 + i) (2005 + i)) : WW p l e s m below meth c Q b ls G ca ma rr sh sc RA SA 973 (100 + i) (2000 + i) := by
  intro R M B tc fl P K U tM tB P2 K2 U2 W1 N1 M1 K1 ln L F SO SL CE mP mK mU at_ rM rB RP RK RB fb fto mW mN mM mQ MO MU H locs cells slots hr hP hD hS hcb hsb
  obtain ⟨hE, hX, hbl, hK, hRA, hSA, hi, hL9, hl⟩ := id C
  obtain ⟨hx, hb, hml, hown, hts⟩ := id hE
  obtain ⟨hT, hRr, hSs⟩ := id hr
  obtain ⟨hM, hB, hMB, hp, hz, h9, hkk, hkd, hu, hub⟩ := id hT
  have hf0 : cells + 0 ≤ room_1.cells ∧ slots + 0 ≤ room_1.slots := ⟨by show cells + 0 ≤ 600000; omega, by show slots + 0 ≤ 7302250; omega⟩
  obtain ⟨j, hj4, hj⟩ := sh_num (xs (i + 1))
  have hSj := hSs j hj4
  obtain ⟨hL60, heK, ⟨L1, hL1a, hL1b, hL1c⟩, hcel⟩ := id hSj
  have hsh : ∀ q, q < 4 → (xs (i + 1)) = nI q → SA q = some (sh j) := fun q hq e => by rw [hj q hq e]; exact hSA j hj4
  have hlk : ∀ q, q < 4 → (xs (i + 1)) = nI q → SL q = nI L1 := fun q hq e => by rw [hj q hq e]; exact hL1b
  have h4 := kX4_lose l G (ca 0) (ca 1) (ca 5) (ca 9) (ca 10) R tc fl SA (sh j) (sc j) (ln j) (L j) (F j) (xs (i + 1)) hsh
  rw [lsG_L] at h4
  obtain ⟨y1, ey1⟩ : ∃ z, z = lsG (-1) (ln j) (xs (i + 1)) (-1) (ln j) := ⟨_, rfl⟩
  obtain ⟨y2, ey2⟩ : ∃ z, z = lsG (-1) (ln j) (xs (i + 1)) 0 (L j) := ⟨_, rfl⟩
  obtain ⟨y3, ey3⟩ : ∃ z, z = lsG (-1) (ln j) (xs (i + 1)) (zr (F j) 60) (F j) := ⟨_, rfl⟩
  rw [← ey1, ← ey2, ← ey3] at h4
  have hrl := k_lose hSs hj
  rw [← ey1, ← ey2, ← ey3] at hrl
  rcases (show j = 0 ∨ j = 1 ∨ j = 2 ∨ j = 3 by omega) with rfl | rfl | rfl | rfl
  ·
    refine lv_aload_n hx hb dL_law_973 rfl (lv_at hl 2 rfl) ?_
    refine ldk (k := 1) C hS dL_law_974 dL_law_975 dL_law_976 dL_law_977 dL_law_978 (by decide) (by decide) ?_
    refine wtV (As := [.int (xs (i + 1))]) (rest := []) (ci := 4) (q0 := 0) (W1 := WL G ca ma rr sh sc RA SA R M B tc fl P K U tM tB P2 K2 U2 W1 N1 M1 K1 (upd ln 0 y1) (va_up L 0 y2) (va_up F 0 y3) R M B tc fl SO SL CE mP mK mU at_ rM rB RP RK RB fb fto mW mN mM mQ MO MU) hE h4 (cwV 1 hts gL_law_X4_lose rfl rfl rfl (by decide +kernel) ⟨Nat.le_of_ble_eq_true rfl, Nat.le_of_ble_eq_true rfl⟩) hP hK hD hS [0, 10, 19, 20] (by decide +kernel) rfl (Eq.trans (b := [ca 0, ca 10, sh 0, sc 0]) rfl rfl) rfl rfl rfl rfl hl.1 rfl (Nat.le_of_ble_eq_true rfl) dL_law_979 hf0 (fun H locs hP hD hS => ?_)
    refine W.eq (g2 := F0 m 982 ls [.int (s_lose (-1) (ln 0) (xs (i + 1)))]) rfl ?_
    refine lv_aload_n hx hb dL_law_982 rfl (lv_at hl 1 rfl) ?_
    refine ldk (k := 1) C hS dL_law_983 dL_law_984 dL_law_985 dL_law_986 dL_law_987 (by decide) (by decide) ?_
    refine wtV (As := [.int (xs (i + 1))]) (rest := [.int (s_lose (-1) (ln 0) (xs (i + 1)))]) (ci := 5) (q0 := 27) (W1 := WL G ca ma rr sh sc RA SA R M B tc fl P K U tM tB P2 K2 U2 W1 N1 M1 K1 (upd ln 0 y1) (va_up L 0 y2) (va_up F 0 y3) R M B tc fl (iF (vp_in (xs (i + 1)) 4) (upd SO (tn (xs (i + 1))) (-9)) SO) SL CE mP mK mU at_ rM rB RP RK RB fb fto mW mN mM mQ MO MU) hE (kX5_lose l G (ma 0) fl tc (ma 1) (ma 2) (ma 3) M B (ma 4) (ma 5) (ma 6) at_ rM rB (ma 7) (ma 8) (ma 9) fb fto R (ma 10) (ma 11) (ma 12) (ma 13) (ma 14) (ma 15) SO (xs (i + 1))) (cwV 1 hts gL_law_X5_lose rfl rfl rfl (by decide +kernel) ⟨Nat.le_of_ble_eq_true rfl, Nat.le_of_ble_eq_true rfl⟩) hP hK hD hS [27, 28] (by decide +kernel) rfl (Eq.trans (b := [ma 0, ma 1]) rfl rfl) rfl rfl rfl rfl hl.1 rfl (Nat.le_of_ble_eq_true rfl) dL_law_988 hf0 (fun H locs hP hD hS => ?_)
    refine W.eq (g2 := F0 m 991 ls [.int (s_lose (-9) (SO (tn (xs (i + 1)))) (xs (i + 1))), .int (s_lose (-1) (ln 0) (xs (i + 1)))]) rfl ?_
    refine lv_icmp_eq (tgt := 1274) hx hb dL_law_991 (by decide) (fun _ => ?_) (fun c9 => absurd (a_lose hSj hj) c9)
    exact hk _ _ _ _ _ _ _ _ _ _ _ _ _ _ _ _ _ _ _ _ _ _ _ _ _ _ _ _ _ _ _ _ _ _ _ _ _ _ _ _ H locs cells slots ⟨hT, hRr, hrl⟩ hP hD hS (by omega) (by omega)
  ·
    refine lv_aload_n hx hb dL_law_973 rfl (lv_at hl 2 rfl) ?_
    refine ldk (k := 1) C hS dL_law_974 dL_law_975 dL_law_976 dL_law_977 dL_law_978 (by decide) (by decide) ?_
    refine wtV (As := [.int (xs (i + 1))]) (rest := []) (ci := 4) (q0 := 0) (W1 := WL G ca ma rr sh sc RA SA R M B tc fl P K U tM tB P2 K2 U2 W1 N1 M1 K1 (upd ln 1 y1) (va_up L 1 y2) (va_up F 1 y3) R M B tc fl SO SL CE mP mK mU at_ rM rB RP RK RB fb fto mW mN mM mQ MO MU) hE h4 (cwV 1 hts gL_law_X4_lose rfl rfl rfl (by decide +kernel) ⟨Nat.le_of_ble_eq_true rfl, Nat.le_of_ble_eq_true rfl⟩) hP hK hD hS [0, 10, 21, 22] (by decide +kernel) rfl (Eq.trans (b := [ca 0, ca 10, sh 1, sc 1]) rfl rfl) rfl rfl rfl rfl hl.1 rfl (Nat.le_of_ble_eq_true rfl) dL_law_979 hf0 (fun H locs hP hD hS => ?_)
    refine W.eq (g2 := F0 m 982 ls [.int (s_lose (-1) (ln 1) (xs (i + 1)))]) rfl ?_
    refine lv_aload_n hx hb dL_law_982 rfl (lv_at hl 1 rfl) ?_
    refine ldk (k := 1) C hS dL_law_983 dL_law_984 dL_law_985 dL_law_986 dL_law_987 (by decide) (by decide) ?_
    refine wtV (As := [.int (xs (i + 1))]) (rest := [.int (s_lose (-1) (ln 1) (xs (i + 1)))]) (ci := 5) (q0 := 27) (W1 := WL G ca ma rr sh sc RA SA R M B tc fl P K U tM tB P2 K2 U2 W1 N1 M1 K1 (upd ln 1 y1) (va_up L 1 y2) (va_up F 1 y3) R M B tc fl (iF (vp_in (xs (i + 1)) 4) (upd SO (tn (xs (i + 1))) (-9)) SO) SL CE mP mK mU at_ rM rB RP RK RB fb fto mW mN mM mQ MO MU) hE (kX5_lose l G (ma 0) fl tc (ma 1) (ma 2) (ma 3) M B (ma 4) (ma 5) (ma 6) at_ rM rB (ma 7) (ma 8) (ma 9) fb fto R (ma 10) (ma 11) (ma 12) (ma 13) (ma 14) (ma 15) SO (xs (i + 1))) (cwV 1 hts gL_law_X5_lose rfl rfl rfl (by decide +kernel) ⟨Nat.le_of_ble_eq_true rfl, Nat.le_of_ble_eq_true rfl⟩) hP hK hD hS [27, 28] (by decide +kernel) rfl (Eq.trans (b := [ma 0, ma 1]) rfl rfl) rfl rfl rfl rfl hl.1 rfl (Nat.le_of_ble_eq_true rfl) dL_law_988 hf0 (fun H locs hP hD hS => ?_)
    refine W.eq (g2 := F0 m 991 ls [.int (s_lose (-9) (SO (tn (xs (i + 1)))) (xs (i + 1))), .int (s_lose (-1) (ln 1) (xs (i + 1)))]) rfl ?_
    refine lv_icmp_eq (tgt := 1274) hx hb dL_law_991 (by decide) (fun _ => ?_) (fun c9 => absurd (a_lose hSj hj) c9)
    exact hk _ _ _ _ _ _ _ _ _ _ _ _ _ _ _ _ _ _ _ _ _ _ _ _ _ _ _ _ _ _ _ _ _ _ _ _ _ _ _ _ H locs cells slots ⟨hT, hRr, hrl⟩ hP hD hS (by omega) (by omega)
  ·
    refine lv_aload_n hx hb dL_law_973 rfl (lv_at hl 2 rfl) ?_
    refine ldk (k := 1) C hS dL_law_974 dL_law_975 dL_law_976 dL_law_977 dL_law_978 (by decide) (by decide) ?_
    refine wtV (As := [.int (xs (i + 1))]) (rest := []) (ci := 4) (q0 := 0) (W1 := WL G ca ma rr sh sc RA SA R M B tc fl P K U tM tB P2 K2 U2 W1 N1 M1 K1 (upd ln 2 y1) (va_up L 2 y2) (va_up F 2 y3) R M B tc fl SO SL CE mP mK mU at_ rM rB RP RK RB fb fto mW mN mM mQ MO MU) hE h4 (cwV 1 hts gL_law_X4_lose rfl rfl rfl (by decide +kernel) ⟨Nat.le_of_ble_eq_true rfl, Nat.le_of_ble_eq_true rfl⟩) hP hK hD hS [0, 10, 23, 24] (by decide +kernel) rfl (Eq.trans (b := [ca 0, ca 10, sh 2, sc 2]) rfl rfl) rfl rfl rfl rfl hl.1 rfl (Nat.le_of_ble_eq_true rfl) dL_law_979 hf0 (fun H locs hP hD hS => ?_)
    refine W.eq (g2 := F0 m 982 ls [.int (s_lose (-1) (ln 2) (xs (i + 1)))]) rfl ?_
    refine lv_aload_n hx hb dL_law_982 rfl (lv_at hl 1 rfl) ?_
    refine ldk (k := 1) C hS dL_law_983 dL_law_984 dL_law_985 dL_law_986 dL_law_987 (by decide) (by decide) ?_
    refine wtV (As := [.int (xs (i + 1))]) (rest := [.int (s_lose (-1) (ln 2) (xs (i + 1)))]) (ci := 5) (q0 := 27) (W1 := WL G ca ma rr sh sc RA SA R M B tc fl P K U tM tB P2 K2 U2 W1 N1 M1 K1 (upd ln 2 y1) (va_up L 2 y2) (va_up F 2 y3) R M B tc fl (iF (vp_in (xs (i + 1)) 4) (upd SO (tn (xs (i + 1))) (-9)) SO) SL CE mP mK mU at_ rM rB RP RK RB fb fto mW mN mM mQ MO MU) hE (kX5_lose l G (ma 0) fl tc (ma 1) (ma 2) (ma 3) M B (ma 4) (ma 5) (ma 6) at_ rM rB (ma 7) (ma 8) (ma 9) fb fto R (ma 10) (ma 11) (ma 12) (ma 13) (ma 14) (ma 15) SO (xs (i + 1))) (cwV 1 hts gL_law_X5_lose rfl rfl rfl (by decide +kernel) ⟨Nat.le_of_ble_eq_true rfl, Nat.le_of_ble_eq_true rfl⟩) hP hK hD hS [27, 28] (by decide +kernel) rfl (Eq.trans (b := [ma 0, ma 1]) rfl rfl) rfl rfl rfl rfl hl.1 rfl (Nat.le_of_ble_eq_true rfl) dL_law_988 hf0 (fun H locs hP hD hS => ?_)
    refine W.eq (g2 := F0 m 991 ls [.int (s_lose (-9) (SO (tn (xs (i + 1)))) (xs (i + 1))), .int (s_lose (-1) (ln 2) (xs (i + 1)))]) rfl ?_
    refine lv_icmp_eq (tgt := 1274) hx hb dL_law_991 (by decide) (fun _ => ?_) (fun c9 => absurd (a_lose hSj hj) c9)
    exact hk _ _ _ _ _ _ _ _ _ _ _ _ _ _ _ _ _ _ _ _ _ _ _ _ _ _ _ _ _ _ _ _ _ _ _ _ _ _ _ _ H locs cells slots ⟨hT, hRr, hrl⟩ hP hD hS (by omega) (by omega)
  ·
    refine lv_aload_n hx hb dL_law_973 rfl (lv_at hl 2 rfl) ?_
    refine ldk (k := 1) C hS dL_law_974 dL_law_975 dL_law_976 dL_law_977 dL_law_978 (by decide) (by decide) ?_
    refine wtV (As := [.int (xs (i + 1))]) (rest := []) (ci := 4) (q0 := 0) (W1 := WL G ca ma rr sh sc RA SA R M B tc fl P K U tM tB P2 K2 U2 W1 N1 M1 K1 (upd ln 3 y1) (va_up L 3 y2) (va_up F 3 y3) R M B tc fl SO SL CE mP mK mU at_ rM rB RP RK RB fb fto mW mN mM mQ MO MU) hE h4 (cwV 1 hts gL_law_X4_lose rfl rfl rfl (by decide +kernel) ⟨Nat.le_of_ble_eq_true rfl, Nat.le_of_ble_eq_true rfl⟩) hP hK hD hS [0, 10, 25, 26] (by decide +kernel) rfl (Eq.trans (b := [ca 0, ca 10, sh 3, sc 3]) rfl rfl) rfl rfl rfl rfl hl.1 rfl (Nat.le_of_ble_eq_true rfl) dL_law_979 hf0 (fun H locs hP hD hS => ?_)
    refine W.eq (g2 := F0 m 982 ls [.int (s_lose (-1) (ln 3) (xs (i + 1)))]) rfl ?_
    refine lv_aload_n hx hb dL_law_982 rfl (lv_at hl 1 rfl) ?_
    refine ldk (k := 1) C hS dL_law_983 dL_law_984 dL_law_985 dL_law_986 dL_law_987 (by decide) (by decide) ?_
    refine wtV (As := [.int (xs (i + 1))]) (rest := [.int (s_lose (-1) (ln 3) (xs (i + 1)))]) (ci := 5) (q0 := 27) (W1 := WL G ca ma rr sh sc RA SA R M B tc fl P K U tM tB P2 K2 U2 W1 N1 M1 K1 (upd ln 3 y1) (va_up L 3 y2) (va_up F 3 y3) R M B tc fl (iF (vp_in (xs (i + 1)) 4) (upd SO (tn (xs (i + 1))) (-9)) SO) SL CE mP mK mU at_ rM rB RP RK RB fb fto mW mN mM mQ MO MU) hE (kX5_lose l G (ma 0) fl tc (ma 1) (ma 2) (ma 3) M B (ma 4) (ma 5) (ma 6) at_ rM rB (ma 7) (ma 8) (ma 9) fb fto R (ma 10) (ma 11) (ma 12) (ma 13) (ma 14) (ma 15) SO (xs (i + 1))) (cwV 1 hts gL_law_X5_lose rfl rfl rfl (by decide +kernel) ⟨Nat.le_of_ble_eq_true rfl, Nat.le_of_ble_eq_true rfl⟩) hP hK hD hS [27, 28] (by decide +kernel) rfl (Eq.trans (b := [ma 0, ma 1]) rfl rfl) rfl rfl rfl rfl hl.1 rfl (Nat.le_of_ble_eq_true rfl) dL_law_988 hf0 (fun H locs hP hD hS => ?_)
    refine W.eq (g2 := F0 m 991 ls [.int (s_lose (-9) (SO (tn (xs (i + 1)))) (xs (i + 1))), .int (s_lose (-1) (ln 3) (xs (i + 1)))]) rfl ?_
    refine lv_icmp_eq (tgt := 1274) hx hb dL_law_991 (by decide) (fun _ => ?_) (fun c9 => absurd (a_lose hSj hj) c9)
    exact hk _ _ _ _ _ _ _ _ _ _ _ _ _ _ _ _ _ _ _ _ _ _ _ _ _ _ _ _ _ _ _ _ _ _ _ _ _ _ _ _ H locs cells slots ⟨hT, hRr, hrl⟩ hP hD hS (by omega) (by omega)
set_option maxHeartbeats 4000000 in
set_option maxRecDepth 100000 in
theorem cs_put {p : Program} {l : Launch} {e : Env} {s : State} {m : MethodId} {below : List Frame} {meth : Method} {c : Code} {Q : State → Prop} {b : Nat} {ls : Array Slot} {G : Gl} {ca ma rr sh sc : Nat → Nat} {RA SA : Nat → Option Nat} {L9 i : Nat} {xs : Nat → Int32} (C : LC p s m c b L9 i xs ls G ca ma rr sh RA SA) (hk : WW p l e s m below meth c Q b ls G ca ma rr sh sc RA SA 1274 (101 + i) (2005 + i)) : WW p l e s m below meth c Q b ls G ca ma rr sh sc RA SA 996 (100 + i) (2000 + i) := by
  intro R M B tc fl P K U tM tB P2 K2 U2 W1 N1 M1 K1 ln L F SO SL CE mP mK mU at_ rM rB RP RK RB fb fto mW mN mM mQ MO MU H locs cells slots hr hP hD hS hcb hsb
  obtain ⟨hE, hX, hbl, hK, hRA, hSA, hi, hL9, hl⟩ := id C
  obtain ⟨hx, hb, hml, hown, hts⟩ := id hE
  obtain ⟨hT, hRr, hSs⟩ := id hr
  obtain ⟨hM, hB, hMB, hp, hz, h9, hkk, hkd, hu, hub⟩ := id hT
  have hf0 : cells + 0 ≤ room_1.cells ∧ slots + 0 ≤ room_1.slots := ⟨by show cells + 0 ≤ 600000; omega, by show slots + 0 ≤ 7302250; omega⟩
  obtain ⟨j, hj4, hj⟩ := sh_num (xs (i + 1))
  have hSj := hSs j hj4
  obtain ⟨hL60, heK, ⟨L1, hL1a, hL1b, hL1c⟩, hcel⟩ := id hSj
  have hsh : ∀ q, q < 4 → (xs (i + 1)) = nI q → SA q = some (sh j) := fun q hq e => by rw [hj q hq e]; exact hSA j hj4
  have hlk : ∀ q, q < 4 → (xs (i + 1)) = nI q → SL q = nI L1 := fun q hq e => by rw [hj q hq e]; exact hL1b
  have hc := kX5_put l G (ma 0) fl tc (ma 1) (ma 2) (ma 3) M B (ma 4) (ma 5) (ma 6) at_ rM rB (ma 7) (ma 8) (ma 9) fb fto R (ma 10) (ma 11) (ma 12) (ma 13) (ma 14) (ma 15) SO SL CE L1 (xs (i + 1)) (xs (i + 2)) (xs (i + 3)) hlk hL1a
  rw [← a_fput hSj hL1c hj] at hc
  have h4 := kX4_put l G (ca 0) (ca 1) (ca 5) (ca 9) (ca 10) R tc fl SA (sh j) (sc j) (ln j) (L j) (F j) (xs (i + 1)) (xs (i + 2)) (xs (i + 3)) hsh hL60
  obtain ⟨y3, ey3⟩ : ∃ z, z = ptG (-1) (ln j) (L j) (xs (i + 1)) (xs (i + 2)) (upd (F j) (tn (xs (i + 2))) (ctl (ln j) (xs (i + 3)))) (F j) := ⟨_, rfl⟩
  rw [← ey3] at h4
  have hrl := k_put hSs hj hL1c (xs (i + 2)) (xs (i + 3))
  rw [← ey3] at hrl
  rcases (show j = 0 ∨ j = 1 ∨ j = 2 ∨ j = 3 by omega) with rfl | rfl | rfl | rfl
  ·
    refine lv_aload_n hx hb dL_law_996 rfl (lv_at hl 2 rfl) ?_
    refine ldk (k := 1) C hS dL_law_997 dL_law_998 dL_law_999 dL_law_1000 dL_law_1001 (by decide) (by decide) ?_
    refine ldk (k := 2) C hS dL_law_1002 dL_law_1003 dL_law_1004 dL_law_1005 dL_law_1006 (by decide) (by decide) ?_
    refine ldk (k := 3) C hS dL_law_1007 dL_law_1008 dL_law_1009 dL_law_1010 dL_law_1011 (by decide) (by decide) ?_
    refine wtV (As := [.int (xs (i + 1)), .int (xs (i + 2)), .int (xs (i + 3))]) (rest := []) (ci := 4) (q0 := 0) (W1 := WL G ca ma rr sh sc RA SA R M B tc (f_put (-1) (ln 0) (L 0) (xs (i + 1)) (xs (i + 2))) P K U tM tB P2 K2 U2 W1 N1 M1 K1 ln L (va_up F 0 y3) R M B tc fl SO SL CE mP mK mU at_ rM rB RP RK RB fb fto mW mN mM mQ MO MU) hE h4 (cwV 3 hts gL_law_X4_put rfl rfl rfl (by decide +kernel) ⟨Nat.le_of_ble_eq_true rfl, Nat.le_of_ble_eq_true rfl⟩) hP hK hD hS [0, 10, 19, 20] (by decide +kernel) rfl (Eq.trans (b := [ca 0, ca 10, sh 0, sc 0]) rfl rfl) rfl rfl rfl rfl hl.1 rfl (Nat.le_of_ble_eq_true rfl) dL_law_1012 hf0 (fun H locs hP hD hS => ?_)
    refine W.eq (g2 := F0 m 1015 ls [.int (s_put (-1) (ln 0) (L 0) (xs (i + 1)) (xs (i + 2)))]) rfl ?_
    refine lv_aload_n hx hb dL_law_1015 rfl (lv_at hl 1 rfl) ?_
    refine ldk (k := 1) C hS dL_law_1016 dL_law_1017 dL_law_1018 dL_law_1019 dL_law_1020 (by decide) (by decide) ?_
    refine ldk (k := 2) C hS dL_law_1021 dL_law_1022 dL_law_1023 dL_law_1024 dL_law_1025 (by decide) (by decide) ?_
    refine ldk (k := 3) C hS dL_law_1026 dL_law_1027 dL_law_1028 dL_law_1029 dL_law_1030 (by decide) (by decide) ?_
    refine wtV (As := [.int (xs (i + 1)), .int (xs (i + 2)), .int (xs (i + 3))]) (rest := [.int (s_put (-1) (ln 0) (L 0) (xs (i + 1)) (xs (i + 2)))]) (ci := 5) (q0 := 27) (W1 := WL G ca ma rr sh sc RA SA R M B tc (f_put (-1) (ln 0) (L 0) (xs (i + 1)) (xs (i + 2))) P K U tM tB P2 K2 U2 W1 N1 M1 K1 ln L (va_up F 0 y3) R M B tc (f_put (-1) (ln 0) (L 0) (xs (i + 1)) (xs (i + 2))) SO SL (ptG (-9) (SO (tn (xs (i + 1)))) L1 (xs (i + 1)) (xs (i + 2)) (upd CE (60 * tn (xs (i + 1)) + tn (xs (i + 2))) (ctl (SO (tn (xs (i + 1)))) (xs (i + 3)))) CE) mP mK mU at_ rM rB RP RK RB fb fto mW mN mM mQ MO MU) hE hc (cwV 3 hts gL_law_X5_put rfl rfl rfl (by decide +kernel) ⟨Nat.le_of_ble_eq_true rfl, Nat.le_of_ble_eq_true rfl⟩) hP hK hD hS [27, 28, 29, 30] (by decide +kernel) rfl (Eq.trans (b := [ma 0, ma 1, ma 2, ma 3]) rfl rfl) rfl rfl rfl rfl hl.1 rfl (Nat.le_of_ble_eq_true rfl) dL_law_1031 hf0 (fun H locs hP hD hS => ?_)
    refine W.eq (g2 := F0 m 1034 ls [.int (s_put (-9) (SO (tn (xs (i + 1)))) L1 (xs (i + 1)) (xs (i + 2))), .int (s_put (-1) (ln 0) (L 0) (xs (i + 1)) (xs (i + 2)))]) rfl ?_
    refine lv_icmp_eq (tgt := 1274) hx hb dL_law_1034 (by decide) (fun _ => ?_) (fun c9 => absurd (a_put hSj hL1c hj (xs (i + 2))) c9)
    exact hk _ _ _ _ _ _ _ _ _ _ _ _ _ _ _ _ _ _ _ _ _ _ _ _ _ _ _ _ _ _ _ _ _ _ _ _ _ _ _ _ H locs cells slots ⟨hT, hRr, hrl⟩ hP hD hS (by omega) (by omega)
  ·
    refine lv_aload_n hx hb dL_law_996 rfl (lv_at hl 2 rfl) ?_
    refine ldk (k := 1) C hS dL_law_997 dL_law_998 dL_law_999 dL_law_1000 dL_law_1001 (by decide) (by decide) ?_
    refine ldk (k := 2) C hS dL_law_1002 dL_law_1003 dL_law_1004 dL_law_1005 dL_law_1006 (by decide) (by decide) ?_
    refine ldk (k := 3) C hS dL_law_1007 dL_law_1008 dL_law_1009 dL_law_1010 dL_law_1011 (by decide) (by decide) ?_
    refine wtV (As := [.int (xs (i + 1)), .int (xs (i + 2)), .int (xs (i + 3))]) (rest := []) (ci := 4) (q0 := 0) (W1 := WL G ca ma rr sh sc RA SA R M B tc (f_put (-1) (ln 1) (L 1) (xs (i + 1)) (xs (i + 2))) P K U tM tB P2 K2 U2 W1 N1 M1 K1 ln L (va_up F 1 y3) R M B tc fl SO SL CE mP mK mU at_ rM rB RP RK RB fb fto mW mN mM mQ MO MU) hE h4 (cwV 3 hts gL_law_X4_put rfl rfl rfl (by decide +kernel) ⟨Nat.le_of_ble_eq_true rfl, Nat.le_of_ble_eq_true rfl⟩) hP hK hD hS [0, 10, 21, 22] (by decide +kernel) rfl (Eq.trans (b := [ca 0, ca 10, sh 1, sc 1]) rfl rfl) rfl rfl rfl rfl hl.1 rfl (Nat.le_of_ble_eq_true rfl) dL_law_1012 hf0 (fun H locs hP hD hS => ?_)
    refine W.eq (g2 := F0 m 1015 ls [.int (s_put (-1) (ln 1) (L 1) (xs (i + 1)) (xs (i + 2)))]) rfl ?_
    refine lv_aload_n hx hb dL_law_1015 rfl (lv_at hl 1 rfl) ?_
    refine ldk (k := 1) C hS dL_law_1016 dL_law_1017 dL_law_1018 dL_law_1019 dL_law_1020 (by decide) (by decide) ?_
    refine ldk (k := 2) C hS dL_law_1021 dL_law_1022 dL_law_1023 dL_law_1024 dL_law_1025 (by decide) (by decide) ?_
    refine ldk (k := 3) C hS dL_law_1026 dL_law_1027 dL_law_1028 dL_law_1029 dL_law_1030 (by decide) (by decide) ?_
    refine wtV (As := [.int (xs (i + 1)), .int (xs (i + 2)), .int (xs (i + 3))]) (rest := [.int (s_put (-1) (ln 1) (L 1) (xs (i + 1)) (xs (i + 2)))]) (ci := 5) (q0 := 27) (W1 := WL G ca ma rr sh sc RA SA R M B tc (f_put (-1) (ln 1) (L 1) (xs (i + 1)) (xs (i + 2))) P K U tM tB P2 K2 U2 W1 N1 M1 K1 ln L (va_up F 1 y3) R M B tc (f_put (-1) (ln 1) (L 1) (xs (i + 1)) (xs (i + 2))) SO SL (ptG (-9) (SO (tn (xs (i + 1)))) L1 (xs (i + 1)) (xs (i + 2)) (upd CE (60 * tn (xs (i + 1)) + tn (xs (i + 2))) (ctl (SO (tn (xs (i + 1)))) (xs (i + 3)))) CE) mP mK mU at_ rM rB RP RK RB fb fto mW mN mM mQ MO MU) hE hc (cwV 3 hts gL_law_X5_put rfl rfl rfl (by decide +kernel) ⟨Nat.le_of_ble_eq_true rfl, Nat.le_of_ble_eq_true rfl⟩) hP hK hD hS [27, 28, 29, 30] (by decide +kernel) rfl (Eq.trans (b := [ma 0, ma 1, ma 2, ma 3]) rfl rfl) rfl rfl rfl rfl hl.1 rfl (Nat.le_of_ble_eq_true rfl) dL_law_1031 hf0 (fun H locs hP hD hS => ?_)
    refine W.eq (g2 := F0 m 1034 ls [.int (s_put (-9) (SO (tn (xs (i + 1)))) L1 (xs (i + 1)) (xs (i + 2))), .int (s_put (-1) (ln 1) (L 1) (xs (i + 1)) (xs (i + 2)))]) rfl ?_
    refine lv_icmp_eq (tgt := 1274) hx hb dL_law_1034 (by decide) (fun _ => ?_) (fun c9 => absurd (a_put hSj hL1c hj (xs (i + 2))) c9)
    exact hk _ _ _ _ _ _ _ _ _ _ _ _ _ _ _ _ _ _ _ _ _ _ _ _ _ _ _ _ _ _ _ _ _ _ _ _ _ _ _ _ H locs cells slots ⟨hT, hRr, hrl⟩ hP hD hS (by omega) (by omega)
  ·
    refine lv_aload_n hx hb dL_law_996 rfl (lv_at hl 2 rfl) ?_
    refine ldk (k := 1) C hS dL_law_997 dL_law_998 dL_law_999 dL_law_1000 dL_law_1001 (by decide) (by decide) ?_
    refine ldk (k := 2) C hS dL_law_1002 dL_law_1003 dL_law_1004 dL_law_1005 dL_law_1006 (by decide) (by decide) ?_
    refine ldk (k := 3) C hS dL_law_1007 dL_law_1008 dL_law_1009 dL_law_1010 dL_law_1011 (by decide) (by decide) ?_
    refine wtV (As := [.int (xs (i + 1)), .int (xs (i + 2)), .int (xs (i + 3))]) (rest := []) (ci := 4) (q0 := 0) (W1 := WL G ca ma rr sh sc RA SA R M B tc (f_put (-1) (ln 2) (L 2) (xs (i + 1)) (xs (i + 2))) P K U tM tB P2 K2 U2 W1 N1 M1 K1 ln L (va_up F 2 y3) R M B tc fl SO SL CE mP mK mU at_ rM rB RP RK RB fb fto mW mN mM mQ MO MU) hE h4 (cwV 3 hts gL_law_X4_put rfl rfl rfl (by decide +kernel) ⟨Nat.le_of_ble_eq_true rfl, Nat.le_of_ble_eq_true rfl⟩) hP hK hD hS [0, 10, 23, 24] (by decide +kernel) rfl (Eq.trans (b := [ca 0, ca 10, sh 2, sc 2]) rfl rfl) rfl rfl rfl rfl hl.1 rfl (Nat.le_of_ble_eq_true rfl) dL_law_1012 hf0 (fun H locs hP hD hS => ?_)
    refine W.eq (g2 := F0 m 1015 ls [.int (s_put (-1) (ln 2) (L 2) (xs (i + 1)) (xs (i + 2)))]) rfl ?_
    refine lv_aload_n hx hb dL_law_1015 rfl (lv_at hl 1 rfl) ?_
    refine ldk (k := 1) C hS dL_law_1016 dL_law_1017 dL_law_1018 dL_law_1019 dL_law_1020 (by decide) (by decide) ?_
    refine ldk (k := 2) C hS dL_law_1021 dL_law_1022 dL_law_1023 dL_law_1024 dL_law_1025 (by decide) (by decide) ?_
    refine ldk (k := 3) C hS dL_law_1026 dL_law_1027 dL_law_1028 dL_law_1029 dL_law_1030 (by decide) (by decide) ?_
    refine wtV (As := [.int (xs (i + 1)), .int (xs (i + 2)), .int (xs (i + 3))]) (rest := [.int (s_put (-1) (ln 2) (L 2) (xs (i + 1)) (xs (i + 2)))]) (ci := 5) (q0 := 27) (W1 := WL G ca ma rr sh sc RA SA R M B tc (f_put (-1) (ln 2) (L 2) (xs (i + 1)) (xs (i + 2))) P K U tM tB P2 K2 U2 W1 N1 M1 K1 ln L (va_up F 2 y3) R M B tc (f_put (-1) (ln 2) (L 2) (xs (i + 1)) (xs (i + 2))) SO SL (ptG (-9) (SO (tn (xs (i + 1)))) L1 (xs (i + 1)) (xs (i + 2)) (upd CE (60 * tn (xs (i + 1)) + tn (xs (i + 2))) (ctl (SO (tn (xs (i + 1)))) (xs (i + 3)))) CE) mP mK mU at_ rM rB RP RK RB fb fto mW mN mM mQ MO MU) hE hc (cwV 3 hts gL_law_X5_put rfl rfl rfl (by decide +kernel) ⟨Nat.le_of_ble_eq_true rfl, Nat.le_of_ble_eq_true rfl⟩) hP hK hD hS [27, 28, 29, 30] (by decide +kernel) rfl (Eq.trans (b := [ma 0, ma 1, ma 2, ma 3]) rfl rfl) rfl rfl rfl rfl hl.1 rfl (Nat.le_of_ble_eq_true rfl) dL_law_1031 hf0 (fun H locs hP hD hS => ?_)
    refine W.eq (g2 := F0 m 1034 ls [.int (s_put (-9) (SO (tn (xs (i + 1)))) L1 (xs (i + 1)) (xs (i + 2))), .int (s_put (-1) (ln 2) (L 2) (xs (i + 1)) (xs (i + 2)))]) rfl ?_
    refine lv_icmp_eq (tgt := 1274) hx hb dL_law_1034 (by decide) (fun _ => ?_) (fun c9 => absurd (a_put hSj hL1c hj (xs (i + 2))) c9)
    exact hk _ _ _ _ _ _ _ _ _ _ _ _ _ _ _ _ _ _ _ _ _ _ _ _ _ _ _ _ _ _ _ _ _ _ _ _ _ _ _ _ H locs cells slots ⟨hT, hRr, hrl⟩ hP hD hS (by omega) (by omega)
  ·
    refine lv_aload_n hx hb dL_law_996 rfl (lv_at hl 2 rfl) ?_
    refine ldk (k := 1) C hS dL_law_997 dL_law_998 dL_law_999 dL_law_1000 dL_law_1001 (by decide) (by decide) ?_
    refine ldk (k := 2) C hS dL_law_1002 dL_law_1003 dL_law_1004 dL_law_1005 dL_law_1006 (by decide) (by decide) ?_
    refine ldk (k := 3) C hS dL_law_1007 dL_law_1008 dL_law_1009 dL_law_1010 dL_law_1011 (by decide) (by decide) ?_
    refine wtV (As := [.int (xs (i + 1)), .int (xs (i + 2)), .int (xs (i + 3))]) (rest := []) (ci := 4) (q0 := 0) (W1 := WL G ca ma rr sh sc RA SA R M B tc (f_put (-1) (ln 3) (L 3) (xs (i + 1)) (xs (i + 2))) P K U tM tB P2 K2 U2 W1 N1 M1 K1 ln L (va_up F 3 y3) R M B tc fl SO SL CE mP mK mU at_ rM rB RP RK RB fb fto mW mN mM mQ MO MU) hE h4 (cwV 3 hts gL_law_X4_put rfl rfl rfl (by decide +kernel) ⟨Nat.le_of_ble_eq_true rfl, Nat.le_of_ble_eq_true rfl⟩) hP hK hD hS [0, 10, 25, 26] (by decide +kernel) rfl (Eq.trans (b := [ca 0, ca 10, sh 3, sc 3]) rfl rfl) rfl rfl rfl rfl hl.1 rfl (Nat.le_of_ble_eq_true rfl) dL_law_1012 hf0 (fun H locs hP hD hS => ?_)
    refine W.eq (g2 := F0 m 1015 ls [.int (s_put (-1) (ln 3) (L 3) (xs (i + 1)) (xs (i + 2)))]) rfl ?_
    refine lv_aload_n hx hb dL_law_1015 rfl (lv_at hl 1 rfl) ?_
    refine ldk (k := 1) C hS dL_law_1016 dL_law_1017 dL_law_1018 dL_law_1019 dL_law_1020 (by decide) (by decide) ?_
    refine ldk (k := 2) C hS dL_law_1021 dL_law_1022 dL_law_1023 dL_law_1024 dL_law_1025 (by decide) (by decide) ?_
    refine ldk (k := 3) C hS dL_law_1026 dL_law_1027 dL_law_1028 dL_law_1029 dL_law_1030 (by decide) (by decide) ?_
    refine wtV (As := [.int (xs (i + 1)), .int (xs (i + 2)), .int (xs (i + 3))]) (rest := [.int (s_put (-1) (ln 3) (L 3) (xs (i + 1)) (xs (i + 2)))]) (ci := 5) (q0 := 27) (W1 := WL G ca ma rr sh sc RA SA R M B tc (f_put (-1) (ln 3) (L 3) (xs (i + 1)) (xs (i + 2))) P K U tM tB P2 K2 U2 W1 N1 M1 K1 ln L (va_up F 3 y3) R M B tc (f_put (-1) (ln 3) (L 3) (xs (i + 1)) (xs (i + 2))) SO SL (ptG (-9) (SO (tn (xs (i + 1)))) L1 (xs (i + 1)) (xs (i + 2)) (upd CE (60 * tn (xs (i + 1)) + tn (xs (i + 2))) (ctl (SO (tn (xs (i + 1)))) (xs (i + 3)))) CE) mP mK mU at_ rM rB RP RK RB fb fto mW mN mM mQ MO MU) hE hc (cwV 3 hts gL_law_X5_put rfl rfl rfl (by decide +kernel) ⟨Nat.le_of_ble_eq_true rfl, Nat.le_of_ble_eq_true rfl⟩) hP hK hD hS [27, 28, 29, 30] (by decide +kernel) rfl (Eq.trans (b := [ma 0, ma 1, ma 2, ma 3]) rfl rfl) rfl rfl rfl rfl hl.1 rfl (Nat.le_of_ble_eq_true rfl) dL_law_1031 hf0 (fun H locs hP hD hS => ?_)
    refine W.eq (g2 := F0 m 1034 ls [.int (s_put (-9) (SO (tn (xs (i + 1)))) L1 (xs (i + 1)) (xs (i + 2))), .int (s_put (-1) (ln 3) (L 3) (xs (i + 1)) (xs (i + 2)))]) rfl ?_
    refine lv_icmp_eq (tgt := 1274) hx hb dL_law_1034 (by decide) (fun _ => ?_) (fun c9 => absurd (a_put hSj hL1c hj (xs (i + 2))) c9)
    exact hk _ _ _ _ _ _ _ _ _ _ _ _ _ _ _ _ _ _ _ _ _ _ _ _ _ _ _ _ _ _ _ _ _ _ _ _ _ _ _ _ H locs cells slots ⟨hT, hRr, hrl⟩ hP hD hS (by omega) (by omega)
set_option maxHeartbeats 4000000 in
set_option maxRecDepth 100000 in
theorem cs_cell {p : Program} {l : Launch} {e : Env} {s : State} {m : MethodId} {below : List Frame} {meth : Method} {c : Code} {Q : State → Prop} {b : Nat} {ls : Array Slot} {G : Gl} {ca ma rr sh sc : Nat → Nat} {RA SA : Nat → Option Nat} {L9 i : Nat} {xs : Nat → Int32} (C : LC p s m c b L9 i xs ls G ca ma rr sh RA SA) (hk : WW p l e s m below meth c Q b ls G ca ma rr sh sc RA SA 1274 (101 + i) (2005 + i)) : WW p l e s m below meth c Q b ls G ca ma rr sh sc RA SA 1039 (100 + i) (2000 + i) := by
  intro R M B tc fl P K U tM tB P2 K2 U2 W1 N1 M1 K1 ln L F SO SL CE mP mK mU at_ rM rB RP RK RB fb fto mW mN mM mQ MO MU H locs cells slots hr hP hD hS hcb hsb
  obtain ⟨hE, hX, hbl, hK, hRA, hSA, hi, hL9, hl⟩ := id C
  obtain ⟨hx, hb, hml, hown, hts⟩ := id hE
  obtain ⟨hT, hRr, hSs⟩ := id hr
  obtain ⟨hM, hB, hMB, hp, hz, h9, hkk, hkd, hu, hub⟩ := id hT
  have hf0 : cells + 0 ≤ room_1.cells ∧ slots + 0 ≤ room_1.slots := ⟨by show cells + 0 ≤ 600000; omega, by show slots + 0 ≤ 7302250; omega⟩
  obtain ⟨j, hj4, hj⟩ := sh_num (xs (i + 1))
  have hSj := hSs j hj4
  obtain ⟨hL60, heK, ⟨L1, hL1a, hL1b, hL1c⟩, hcel⟩ := id hSj
  have hsh : ∀ q, q < 4 → (xs (i + 1)) = nI q → SA q = some (sh j) := fun q hq e => by rw [hj q hq e]; exact hSA j hj4
  have hlk : ∀ q, q < 4 → (xs (i + 1)) = nI q → SL q = nI L1 := fun q hq e => by rw [hj q hq e]; exact hL1b
  have hc := kX5_cell l G (ma 0) fl tc (ma 1) (ma 2) (ma 3) M B (ma 4) (ma 5) (ma 6) at_ rM rB (ma 7) (ma 8) (ma 9) fb fto R (ma 10) (ma 11) (ma 12) (ma 13) (ma 14) (ma 15) SO SL CE L1 (xs (i + 1)) (xs (i + 2)) (xs (i + 3)) hlk hL1a
  rw [← a_fcell hSj hL1c hj] at hc
  rcases (show j = 0 ∨ j = 1 ∨ j = 2 ∨ j = 3 by omega) with rfl | rfl | rfl | rfl
  ·
    refine lv_aload_n hx hb dL_law_1039 rfl (lv_at hl 2 rfl) ?_
    refine ldk (k := 1) C hS dL_law_1040 dL_law_1041 dL_law_1042 dL_law_1043 dL_law_1044 (by decide) (by decide) ?_
    refine ldk (k := 2) C hS dL_law_1045 dL_law_1046 dL_law_1047 dL_law_1048 dL_law_1049 (by decide) (by decide) ?_
    refine ldk (k := 3) C hS dL_law_1050 dL_law_1051 dL_law_1052 dL_law_1053 dL_law_1054 (by decide) (by decide) ?_
    refine wtV (As := [.int (xs (i + 1)), .int (xs (i + 2)), .int (xs (i + 3))]) (rest := []) (ci := 4) (q0 := 0) (W1 := WL G ca ma rr sh sc RA SA R M B tc (f_cell (ft (-1) (ln 0) (L 0) (xs (i + 3)) (xs (i + 2)) (nI 1)) (xs (i + 1)) (xs (i + 3))) P K U tM tB P2 K2 U2 W1 N1 M1 K1 ln L F R M B tc fl SO SL CE mP mK mU at_ rM rB RP RK RB fb fto mW mN mM mQ MO MU) hE (kX4_cell l G (ca 0) (ca 1) (ca 5) (ca 9) (ca 10) R tc fl SA (sh 0) (sc 0) (ln 0) (L 0) (F 0) (xs (i + 1)) (xs (i + 2)) (xs (i + 3)) hsh hL60) (cwV 3 hts gL_law_X4_cell rfl rfl rfl (by decide +kernel) ⟨Nat.le_of_ble_eq_true rfl, Nat.le_of_ble_eq_true rfl⟩) hP hK hD hS [0, 10, 19, 20] (by decide +kernel) rfl (Eq.trans (b := [ca 0, ca 10, sh 0, sc 0]) rfl rfl) rfl rfl rfl rfl hl.1 rfl (Nat.le_of_ble_eq_true rfl) dL_law_1055 hf0 (fun H locs hP hD hS => ?_)
    refine W.eq (g2 := F0 m 1058 ls [.long (s_cell (ft (-1) (ln 0) (L 0) (xs (i + 3)) (xs (i + 2)) (nI 1)) (F 0 (tn (xs (i + 2)))).toInt64 (xs (i + 1)) (xs (i + 3)))]) rfl ?_
    refine lv_aload_n hx hb dL_law_1058 rfl (lv_at hl 1 rfl) ?_
    refine ldk (k := 1) C hS dL_law_1059 dL_law_1060 dL_law_1061 dL_law_1062 dL_law_1063 (by decide) (by decide) ?_
    refine ldk (k := 2) C hS dL_law_1064 dL_law_1065 dL_law_1066 dL_law_1067 dL_law_1068 (by decide) (by decide) ?_
    refine ldk (k := 3) C hS dL_law_1069 dL_law_1070 dL_law_1071 dL_law_1072 dL_law_1073 (by decide) (by decide) ?_
    refine wtV (As := [.int (xs (i + 1)), .int (xs (i + 2)), .int (xs (i + 3))]) (rest := [.long (s_cell (ft (-1) (ln 0) (L 0) (xs (i + 3)) (xs (i + 2)) (nI 1)) (F 0 (tn (xs (i + 2)))).toInt64 (xs (i + 1)) (xs (i + 3)))]) (ci := 5) (q0 := 27) (W1 := WL G ca ma rr sh sc RA SA R M B tc (f_cell (ft (-1) (ln 0) (L 0) (xs (i + 3)) (xs (i + 2)) (nI 1)) (xs (i + 1)) (xs (i + 3))) P K U tM tB P2 K2 U2 W1 N1 M1 K1 ln L F R M B tc (f_cell (ft (-1) (ln 0) (L 0) (xs (i + 3)) (xs (i + 2)) (nI 1)) (xs (i + 1)) (xs (i + 3))) SO SL CE mP mK mU at_ rM rB RP RK RB fb fto mW mN mM mQ MO MU) hE hc (cwV 3 hts gL_law_X5_cell rfl rfl rfl (by decide +kernel) ⟨Nat.le_of_ble_eq_true rfl, Nat.le_of_ble_eq_true rfl⟩) hP hK hD hS [27, 28, 29, 30] (by decide +kernel) rfl (Eq.trans (b := [ma 0, ma 1, ma 2, ma 3]) rfl rfl) rfl rfl rfl rfl hl.1 rfl (Nat.le_of_ble_eq_true rfl) dL_law_1074 hf0 (fun H locs hP hD hS => ?_)
    refine W.eq (g2 := F0 m 1077 ls [.long (s_cell (ft (-9) (SO (tn (xs (i + 1)))) L1 (xs (i + 3)) (xs (i + 2)) (nI 1)) (CE (60 * tn (xs (i + 1)) + tn (xs (i + 2)))).toInt64 (xs (i + 1)) (xs (i + 3))), .long (s_cell (ft (-1) (ln 0) (L 0) (xs (i + 3)) (xs (i + 2)) (nI 1)) (F 0 (tn (xs (i + 2)))).toInt64 (xs (i + 1)) (xs (i + 3)))]) rfl ?_
    refine W.lcmp hx hb dL_law_1077 ?_
    refine lv_if_eq (tgt := 1274) hx hb dL_law_1078 (by decide) (fun _ => ?_) (fun c9 => absurd ((lg_cmp_eq _ _).mpr (a_cell hSj hL1c hj (xs (i + 3)) (xs (i + 2)))) c9)
    exact hk _ _ _ _ _ _ _ _ _ _ _ _ _ _ _ _ _ _ _ _ _ _ _ _ _ _ _ _ _ _ _ _ _ _ _ _ _ _ _ _ H locs cells slots hr hP hD hS (by omega) (by omega)
  ·
    refine lv_aload_n hx hb dL_law_1039 rfl (lv_at hl 2 rfl) ?_
    refine ldk (k := 1) C hS dL_law_1040 dL_law_1041 dL_law_1042 dL_law_1043 dL_law_1044 (by decide) (by decide) ?_
    refine ldk (k := 2) C hS dL_law_1045 dL_law_1046 dL_law_1047 dL_law_1048 dL_law_1049 (by decide) (by decide) ?_
    refine ldk (k := 3) C hS dL_law_1050 dL_law_1051 dL_law_1052 dL_law_1053 dL_law_1054 (by decide) (by decide) ?_
    refine wtV (As := [.int (xs (i + 1)), .int (xs (i + 2)), .int (xs (i + 3))]) (rest := []) (ci := 4) (q0 := 0) (W1 := WL G ca ma rr sh sc RA SA R M B tc (f_cell (ft (-1) (ln 1) (L 1) (xs (i + 3)) (xs (i + 2)) (nI 1)) (xs (i + 1)) (xs (i + 3))) P K U tM tB P2 K2 U2 W1 N1 M1 K1 ln L F R M B tc fl SO SL CE mP mK mU at_ rM rB RP RK RB fb fto mW mN mM mQ MO MU) hE (kX4_cell l G (ca 0) (ca 1) (ca 5) (ca 9) (ca 10) R tc fl SA (sh 1) (sc 1) (ln 1) (L 1) (F 1) (xs (i + 1)) (xs (i + 2)) (xs (i + 3)) hsh hL60) (cwV 3 hts gL_law_X4_cell rfl rfl rfl (by decide +kernel) ⟨Nat.le_of_ble_eq_true rfl, Nat.le_of_ble_eq_true rfl⟩) hP hK hD hS [0, 10, 21, 22] (by decide +kernel) rfl (Eq.trans (b := [ca 0, ca 10, sh 1, sc 1]) rfl rfl) rfl rfl rfl rfl hl.1 rfl (Nat.le_of_ble_eq_true rfl) dL_law_1055 hf0 (fun H locs hP hD hS => ?_)
    refine W.eq (g2 := F0 m 1058 ls [.long (s_cell (ft (-1) (ln 1) (L 1) (xs (i + 3)) (xs (i + 2)) (nI 1)) (F 1 (tn (xs (i + 2)))).toInt64 (xs (i + 1)) (xs (i + 3)))]) rfl ?_
    refine lv_aload_n hx hb dL_law_1058 rfl (lv_at hl 1 rfl) ?_
    refine ldk (k := 1) C hS dL_law_1059 dL_law_1060 dL_law_1061 dL_law_1062 dL_law_1063 (by decide) (by decide) ?_
    refine ldk (k := 2) C hS dL_law_1064 dL_law_1065 dL_law_1066 dL_law_1067 dL_law_1068 (by decide) (by decide) ?_
    refine ldk (k := 3) C hS dL_law_1069 dL_law_1070 dL_law_1071 dL_law_1072 dL_law_1073 (by decide) (by decide) ?_
    refine wtV (As := [.int (xs (i + 1)), .int (xs (i + 2)), .int (xs (i + 3))]) (rest := [.long (s_cell (ft (-1) (ln 1) (L 1) (xs (i + 3)) (xs (i + 2)) (nI 1)) (F 1 (tn (xs (i + 2)))).toInt64 (xs (i + 1)) (xs (i + 3)))]) (ci := 5) (q0 := 27) (W1 := WL G ca ma rr sh sc RA SA R M B tc (f_cell (ft (-1) (ln 1) (L 1) (xs (i + 3)) (xs (i + 2)) (nI 1)) (xs (i + 1)) (xs (i + 3))) P K U tM tB P2 K2 U2 W1 N1 M1 K1 ln L F R M B tc (f_cell (ft (-1) (ln 1) (L 1) (xs (i + 3)) (xs (i + 2)) (nI 1)) (xs (i + 1)) (xs (i + 3))) SO SL CE mP mK mU at_ rM rB RP RK RB fb fto mW mN mM mQ MO MU) hE hc (cwV 3 hts gL_law_X5_cell rfl rfl rfl (by decide +kernel) ⟨Nat.le_of_ble_eq_true rfl, Nat.le_of_ble_eq_true rfl⟩) hP hK hD hS [27, 28, 29, 30] (by decide +kernel) rfl (Eq.trans (b := [ma 0, ma 1, ma 2, ma 3]) rfl rfl) rfl rfl rfl rfl hl.1 rfl (Nat.le_of_ble_eq_true rfl) dL_law_1074 hf0 (fun H locs hP hD hS => ?_)
    refine W.eq (g2 := F0 m 1077 ls [.long (s_cell (ft (-9) (SO (tn (xs (i + 1)))) L1 (xs (i + 3)) (xs (i + 2)) (nI 1)) (CE (60 * tn (xs (i + 1)) + tn (xs (i + 2)))).toInt64 (xs (i + 1)) (xs (i + 3))), .long (s_cell (ft (-1) (ln 1) (L 1) (xs (i + 3)) (xs (i + 2)) (nI 1)) (F 1 (tn (xs (i + 2)))).toInt64 (xs (i + 1)) (xs (i + 3)))]) rfl ?_
    refine W.lcmp hx hb dL_law_1077 ?_
    refine lv_if_eq (tgt := 1274) hx hb dL_law_1078 (by decide) (fun _ => ?_) (fun c9 => absurd ((lg_cmp_eq _ _).mpr (a_cell hSj hL1c hj (xs (i + 3)) (xs (i + 2)))) c9)
    exact hk _ _ _ _ _ _ _ _ _ _ _ _ _ _ _ _ _ _ _ _ _ _ _ _ _ _ _ _ _ _ _ _ _ _ _ _ _ _ _ _ H locs cells slots hr hP hD hS (by omega) (by omega)
  ·
    refine lv_aload_n hx hb dL_law_1039 rfl (lv_at hl 2 rfl) ?_
    refine ldk (k := 1) C hS dL_law_1040 dL_law_1041 dL_law_1042 dL_law_1043 dL_law_1044 (by decide) (by decide) ?_
    refine ldk (k := 2) C hS dL_law_1045 dL_law_1046 dL_law_1047 dL_law_1048 dL_law_1049 (by decide) (by decide) ?_
    refine ldk (k := 3) C hS dL_law_1050 dL_law_1051 dL_law_1052 dL_law_1053 dL_law_1054 (by decide) (by decide) ?_
    refine wtV (As := [.int (xs (i + 1)), .int (xs (i + 2)), .int (xs (i + 3))]) (rest := []) (ci := 4) (q0 := 0) (W1 := WL G ca ma rr sh sc RA SA R M B tc (f_cell (ft (-1) (ln 2) (L 2) (xs (i + 3)) (xs (i + 2)) (nI 1)) (xs (i + 1)) (xs (i + 3))) P K U tM tB P2 K2 U2 W1 N1 M1 K1 ln L F R M B tc fl SO SL CE mP mK mU at_ rM rB RP RK RB fb fto mW mN mM mQ MO MU) hE (kX4_cell l G (ca 0) (ca 1) (ca 5) (ca 9) (ca 10) R tc fl SA (sh 2) (sc 2) (ln 2) (L 2) (F 2) (xs (i + 1)) (xs (i + 2)) (xs (i + 3)) hsh hL60) (cwV 3 hts gL_law_X4_cell rfl rfl rfl (by decide +kernel) ⟨Nat.le_of_ble_eq_true rfl, Nat.le_of_ble_eq_true rfl⟩) hP hK hD hS [0, 10, 23, 24] (by decide +kernel) rfl (Eq.trans (b := [ca 0, ca 10, sh 2, sc 2]) rfl rfl) rfl rfl rfl rfl hl.1 rfl (Nat.le_of_ble_eq_true rfl) dL_law_1055 hf0 (fun H locs hP hD hS => ?_)
    refine W.eq (g2 := F0 m 1058 ls [.long (s_cell (ft (-1) (ln 2) (L 2) (xs (i + 3)) (xs (i + 2)) (nI 1)) (F 2 (tn (xs (i + 2)))).toInt64 (xs (i + 1)) (xs (i + 3)))]) rfl ?_
    refine lv_aload_n hx hb dL_law_1058 rfl (lv_at hl 1 rfl) ?_
    refine ldk (k := 1) C hS dL_law_1059 dL_law_1060 dL_law_1061 dL_law_1062 dL_law_1063 (by decide) (by decide) ?_
    refine ldk (k := 2) C hS dL_law_1064 dL_law_1065 dL_law_1066 dL_law_1067 dL_law_1068 (by decide) (by decide) ?_
    refine ldk (k := 3) C hS dL_law_1069 dL_law_1070 dL_law_1071 dL_law_1072 dL_law_1073 (by decide) (by decide) ?_
    refine wtV (As := [.int (xs (i + 1)), .int (xs (i + 2)), .int (xs (i + 3))]) (rest := [.long (s_cell (ft (-1) (ln 2) (L 2) (xs (i + 3)) (xs (i + 2)) (nI 1)) (F 2 (tn (xs (i + 2)))).toInt64 (xs (i + 1)) (xs (i + 3)))]) (ci := 5) (q0 := 27) (W1 := WL G ca ma rr sh sc RA SA R M B tc (f_cell (ft (-1) (ln 2) (L 2) (xs (i + 3)) (xs (i + 2)) (nI 1)) (xs (i + 1)) (xs (i + 3))) P K U tM tB P2 K2 U2 W1 N1 M1 K1 ln L F R M B tc (f_cell (ft (-1) (ln 2) (L 2) (xs (i + 3)) (xs (i + 2)) (nI 1)) (xs (i + 1)) (xs (i + 3))) SO SL CE mP mK mU at_ rM rB RP RK RB fb fto mW mN mM mQ MO MU) hE hc (cwV 3 hts gL_law_X5_cell rfl rfl rfl (by decide +kernel) ⟨Nat.le_of_ble_eq_true rfl, Nat.le_of_ble_eq_true rfl⟩) hP hK hD hS [27, 28, 29, 30] (by decide +kernel) rfl (Eq.trans (b := [ma 0, ma 1, ma 2, ma 3]) rfl rfl) rfl rfl rfl rfl hl.1 rfl (Nat.le_of_ble_eq_true rfl) dL_law_1074 hf0 (fun H locs hP hD hS => ?_)
    refine W.eq (g2 := F0 m 1077 ls [.long (s_cell (ft (-9) (SO (tn (xs (i + 1)))) L1 (xs (i + 3)) (xs (i + 2)) (nI 1)) (CE (60 * tn (xs (i + 1)) + tn (xs (i + 2)))).toInt64 (xs (i + 1)) (xs (i + 3))), .long (s_cell (ft (-1) (ln 2) (L 2) (xs (i + 3)) (xs (i + 2)) (nI 1)) (F 2 (tn (xs (i + 2)))).toInt64 (xs (i + 1)) (xs (i + 3)))]) rfl ?_
    refine W.lcmp hx hb dL_law_1077 ?_
    refine lv_if_eq (tgt := 1274) hx hb dL_law_1078 (by decide) (fun _ => ?_) (fun c9 => absurd ((lg_cmp_eq _ _).mpr (a_cell hSj hL1c hj (xs (i + 3)) (xs (i + 2)))) c9)
    exact hk _ _ _ _ _ _ _ _ _ _ _ _ _ _ _ _ _ _ _ _ _ _ _ _ _ _ _ _ _ _ _ _ _ _ _ _ _ _ _ _ H locs cells slots hr hP hD hS (by omega) (by omega)
  ·
    refine lv_aload_n hx hb dL_law_1039 rfl (lv_at hl 2 rfl) ?_
    refine ldk (k := 1) C hS dL_law_1040 dL_law_1041 dL_law_1042 dL_law_1043 dL_law_1044 (by decide) (by decide) ?_
    refine ldk (k := 2) C hS dL_law_1045 dL_law_1046 dL_law_1047 dL_law_1048 dL_law_1049 (by decide) (by decide) ?_
    refine ldk (k := 3) C hS dL_law_1050 dL_law_1051 dL_law_1052 dL_law_1053 dL_law_1054 (by decide) (by decide) ?_
    refine wtV (As := [.int (xs (i + 1)), .int (xs (i + 2)), .int (xs (i + 3))]) (rest := []) (ci := 4) (q0 := 0) (W1 := WL G ca ma rr sh sc RA SA R M B tc (f_cell (ft (-1) (ln 3) (L 3) (xs (i + 3)) (xs (i + 2)) (nI 1)) (xs (i + 1)) (xs (i + 3))) P K U tM tB P2 K2 U2 W1 N1 M1 K1 ln L F R M B tc fl SO SL CE mP mK mU at_ rM rB RP RK RB fb fto mW mN mM mQ MO MU) hE (kX4_cell l G (ca 0) (ca 1) (ca 5) (ca 9) (ca 10) R tc fl SA (sh 3) (sc 3) (ln 3) (L 3) (F 3) (xs (i + 1)) (xs (i + 2)) (xs (i + 3)) hsh hL60) (cwV 3 hts gL_law_X4_cell rfl rfl rfl (by decide +kernel) ⟨Nat.le_of_ble_eq_true rfl, Nat.le_of_ble_eq_true rfl⟩) hP hK hD hS [0, 10, 25, 26] (by decide +kernel) rfl (Eq.trans (b := [ca 0, ca 10, sh 3, sc 3]) rfl rfl) rfl rfl rfl rfl hl.1 rfl (Nat.le_of_ble_eq_true rfl) dL_law_1055 hf0 (fun H locs hP hD hS => ?_)
    refine W.eq (g2 := F0 m 1058 ls [.long (s_cell (ft (-1) (ln 3) (L 3) (xs (i + 3)) (xs (i + 2)) (nI 1)) (F 3 (tn (xs (i + 2)))).toInt64 (xs (i + 1)) (xs (i + 3)))]) rfl ?_
    refine lv_aload_n hx hb dL_law_1058 rfl (lv_at hl 1 rfl) ?_
    refine ldk (k := 1) C hS dL_law_1059 dL_law_1060 dL_law_1061 dL_law_1062 dL_law_1063 (by decide) (by decide) ?_
    refine ldk (k := 2) C hS dL_law_1064 dL_law_1065 dL_law_1066 dL_law_1067 dL_law_1068 (by decide) (by decide) ?_
    refine ldk (k := 3) C hS dL_law_1069 dL_law_1070 dL_law_1071 dL_law_1072 dL_law_1073 (by decide) (by decide) ?_
    refine wtV (As := [.int (xs (i + 1)), .int (xs (i + 2)), .int (xs (i + 3))]) (rest := [.long (s_cell (ft (-1) (ln 3) (L 3) (xs (i + 3)) (xs (i + 2)) (nI 1)) (F 3 (tn (xs (i + 2)))).toInt64 (xs (i + 1)) (xs (i + 3)))]) (ci := 5) (q0 := 27) (W1 := WL G ca ma rr sh sc RA SA R M B tc (f_cell (ft (-1) (ln 3) (L 3) (xs (i + 3)) (xs (i + 2)) (nI 1)) (xs (i + 1)) (xs (i + 3))) P K U tM tB P2 K2 U2 W1 N1 M1 K1 ln L F R M B tc (f_cell (ft (-1) (ln 3) (L 3) (xs (i + 3)) (xs (i + 2)) (nI 1)) (xs (i + 1)) (xs (i + 3))) SO SL CE mP mK mU at_ rM rB RP RK RB fb fto mW mN mM mQ MO MU) hE hc (cwV 3 hts gL_law_X5_cell rfl rfl rfl (by decide +kernel) ⟨Nat.le_of_ble_eq_true rfl, Nat.le_of_ble_eq_true rfl⟩) hP hK hD hS [27, 28, 29, 30] (by decide +kernel) rfl (Eq.trans (b := [ma 0, ma 1, ma 2, ma 3]) rfl rfl) rfl rfl rfl rfl hl.1 rfl (Nat.le_of_ble_eq_true rfl) dL_law_1074 hf0 (fun H locs hP hD hS => ?_)
    refine W.eq (g2 := F0 m 1077 ls [.long (s_cell (ft (-9) (SO (tn (xs (i + 1)))) L1 (xs (i + 3)) (xs (i + 2)) (nI 1)) (CE (60 * tn (xs (i + 1)) + tn (xs (i + 2)))).toInt64 (xs (i + 1)) (xs (i + 3))), .long (s_cell (ft (-1) (ln 3) (L 3) (xs (i + 3)) (xs (i + 2)) (nI 1)) (F 3 (tn (xs (i + 2)))).toInt64 (xs (i + 1)) (xs (i + 3)))]) rfl ?_
    refine W.lcmp hx hb dL_law_1077 ?_
    refine lv_if_eq (tgt := 1274) hx hb dL_law_1078 (by decide) (fun _ => ?_) (fun c9 => absurd ((lg_cmp_eq _ _).mpr (a_cell hSj hL1c hj (xs (i + 3)) (xs (i + 2)))) c9)
    exact hk _ _ _ _ _ _ _ _ _ _ _ _ _ _ _ _ _ _ _ _ _ _ _ _ _ _ _ _ _ _ _ _ _ _ _ _ _ _ _ _ H locs cells slots hr hP hD hS (by omega) (by omega)
