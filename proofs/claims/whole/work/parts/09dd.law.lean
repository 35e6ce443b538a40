/-! ===== the cases of the law: sheet ===== -/
set_option maxHeartbeats 4000000 in
set_option maxRecDepth 100000 in
theorem cs_sheet {p : Program} {l : Launch} {e : Env} {s : State} {m : MethodId} {below : List Frame} {meth : Method} {c : Code} {Q : State → Prop} {b : Nat} {ls : Array Slot} {G : Gl} {ca ma rr sh sc : Nat → Nat} {RA SA : Nat → Option Nat} {L9 i : Nat} {xs : Nat → Int32} (C : LC p s m c b L9 i xs ls G ca ma rr sh RA SA) (hk : WW p l e s m below meth c Q b ls G ca ma rr sh sc RA SA 1274 (101 + i) (2005 + i)) : WW p l e s m below meth c Q b ls G ca ma rr sh sc RA SA 930 (100 + i) (2000 + i) := by
  intro R M B tc fl P K U tM tB P2 K2 U2 W1 N1 M1 K1 ln L F SO SL CE mP mK mU at_ rM rB RP RK RB fb fto mW mN mM mQ MO MU H locs cells slots hr hP hD hS hcb hsb
  obtain ⟨hE, hX, hbl, hK, hRA, hSA, hi, hL9, hl⟩ := id C
  obtain ⟨hx, hb, hml, hown, hts⟩ := id hE
  obtain ⟨hT, hRr, hSs⟩ := id hr
  obtain ⟨hM, hB, hMB, hp, hz, h9, hkk, hkd, hu, hub⟩ := id hT
  have hf0 : cells + 0 ≤ room_1.cells ∧ slots + 0 ≤ room_1.slots := ⟨by show cells + 0 ≤ 600000; omega, by show slots + 0 ≤ 7302250; omega⟩
  obtain ⟨j, hj4, hj⟩ := sh_num (xs (i + 1))
  have hSj := hSs j hj4
  obtain ⟨hL60, heK, ⟨L1, hL1a, hL1b, hL1c⟩, hcel⟩ := id hSj
  have hsh : ∀ q, q < 4 → (xs (i + 1)) = nI q → SA q = some (sh j) := fun q hq e => by rw [hj q hq e]; exact hSA j hj4
  have hlk : ∀ q, q < 4 → (xs (i + 1)) = nI q → SL q = nI L1 := fun q hq e => by rw [hj q hq e]; exact hL1b
  have h4 := kX4_sheet l G (ca 0) (ca 1) (ca 5) (ca 9) (ca 10) R tc fl SA (sh j) (sc j) (ln j) (L j) (F j) (xs (i + 1)) (xs (i + 2)) (xs (i + 3)) hsh
  rw [shG_L] at h4
  obtain ⟨y1, ey1⟩ : ∃ z, z = shG (xs (i + 1)) (xs (i + 2)) (xs (i + 3)) (xs (i + 2)) (ln j) := ⟨_, rfl⟩
  obtain ⟨y2, ey2⟩ : ∃ z, z = shG (xs (i + 1)) (xs (i + 2)) (xs (i + 3)) (tn (xs (i + 3))) (L j) := ⟨_, rfl⟩
  obtain ⟨y3, ey3⟩ : ∃ z, z = shG (xs (i + 1)) (xs (i + 2)) (xs (i + 3)) (zr (F j) 60) (F j) := ⟨_, rfl⟩
  rw [← ey1, ← ey2, ← ey3] at h4
  have hrl := k_sheet hSs hj (xs (i + 2)) (xs (i + 3))
  rw [← ey1, ← ey2, ← ey3] at hrl
  rcases (show j = 0 ∨ j = 1 ∨ j = 2 ∨ j = 3 by omega) with rfl | rfl | rfl | rfl
  ·
    refine lv_aload_n hx hb dL_law_930 rfl (lv_at hl 2 rfl) ?_
    refine ldk (k := 1) C hS dL_law_931 dL_law_932 dL_law_933 dL_law_934 dL_law_935 (by decide) (by decide) ?_
    refine ldk (k := 2) C hS dL_law_936 dL_law_937 dL_law_938 dL_law_939 dL_law_940 (by decide) (by decide) ?_
    refine ldk (k := 3) C hS dL_law_941 dL_law_942 dL_law_943 dL_law_944 dL_law_945 (by decide) (by decide) ?_
    refine wtV (As := [.int (xs (i + 1)), .int (xs (i + 2)), .int (xs (i + 3))]) (rest := []) (ci := 4) (q0 := 0) (W1 := WL G ca ma rr sh sc RA SA R M B tc (f_sheet (xs (i + 1)) (xs (i + 2)) (xs (i + 3))) P K U tM tB P2 K2 U2 W1 N1 M1 K1 (upd ln 0 y1) (va_up L 0 y2) (va_up F 0 y3) R M B tc fl SO SL CE mP mK mU at_ rM rB RP RK RB fb fto mW mN mM mQ MO MU) hE h4 (cwV 3 hts gL_law_X4_sheet rfl rfl rfl (by decide +kernel) ⟨Nat.le_of_ble_eq_true rfl, Nat.le_of_ble_eq_true rfl⟩) hP hK hD hS [0, 10, 19, 20] (by decide +kernel) rfl (Eq.trans (b := [ca 0, ca 10, sh 0, sc 0]) rfl rfl) rfl rfl rfl rfl hl.1 rfl (Nat.le_of_ble_eq_true rfl) dL_law_946 hf0 (fun H locs hP hD hS => ?_)
    refine W.eq (g2 := F0 m 949 ls [.int (s_sheet (xs (i + 1)) (xs (i + 2)) (xs (i + 3)))]) rfl ?_
    refine lv_aload_n hx hb dL_law_949 rfl (lv_at hl 1 rfl) ?_
    refine ldk (k := 1) C hS dL_law_950 dL_law_951 dL_law_952 dL_law_953 dL_law_954 (by decide) (by decide) ?_
    refine ldk (k := 2) C hS dL_law_955 dL_law_956 dL_law_957 dL_law_958 dL_law_959 (by decide) (by decide) ?_
    refine ldk (k := 3) C hS dL_law_960 dL_law_961 dL_law_962 dL_law_963 dL_law_964 (by decide) (by decide) ?_
    refine wtV (As := [.int (xs (i + 1)), .int (xs (i + 2)), .int (xs (i + 3))]) (rest := [.int (s_sheet (xs (i + 1)) (xs (i + 2)) (xs (i + 3)))]) (ci := 5) (q0 := 27) (W1 := WL G ca ma rr sh sc RA SA R M B tc (f_sheet (xs (i + 1)) (xs (i + 2)) (xs (i + 3))) P K U tM tB P2 K2 U2 W1 N1 M1 K1 (upd ln 0 y1) (va_up L 0 y2) (va_up F 0 y3) R M B tc (f_sheet (xs (i + 1)) (xs (i + 2)) (xs (i + 3))) (shG (xs (i + 1)) (xs (i + 2)) (xs (i + 3)) (upd SO (tn (xs (i + 1))) (xs (i + 2))) SO) (shG (xs (i + 1)) (xs (i + 2)) (xs (i + 3)) (upd SL (tn (xs (i + 1))) (xs (i + 3))) SL) (shG (xs (i + 1)) (xs (i + 2)) (xs (i + 3)) (zrm CE (tn (xs (i + 1))) 60) CE) mP mK mU at_ rM rB RP RK RB fb fto mW mN mM mQ MO MU) hE (kX5_sheet l G (ma 0) fl tc (ma 1) (ma 2) (ma 3) M B (ma 4) (ma 5) (ma 6) at_ rM rB (ma 7) (ma 8) (ma 9) fb fto R (ma 10) (ma 11) (ma 12) (ma 13) (ma 14) (ma 15) SO SL CE (xs (i + 1)) (xs (i + 2)) (xs (i + 3))) (cwV 3 hts gL_law_X5_sheet rfl rfl rfl (by decide +kernel) ⟨Nat.le_of_ble_eq_true rfl, Nat.le_of_ble_eq_true rfl⟩) hP hK hD hS [27, 28, 29, 30] (by decide +kernel) rfl (Eq.trans (b := [ma 0, ma 1, ma 2, ma 3]) rfl rfl) rfl rfl rfl rfl hl.1 rfl (Nat.le_of_ble_eq_true rfl) dL_law_965 hf0 (fun H locs hP hD hS => ?_)
    refine W.eq (g2 := F0 m 968 ls [.int (s_sheet (xs (i + 1)) (xs (i + 2)) (xs (i + 3))), .int (s_sheet (xs (i + 1)) (xs (i + 2)) (xs (i + 3)))]) rfl ?_
    refine lv_icmp_eq (tgt := 1274) hx hb dL_law_968 (by decide) (fun _ => ?_) (fun c9 => absurd rfl c9)
    exact hk _ _ _ _ _ _ _ _ _ _ _ _ _ _ _ _ _ _ _ _ _ _ _ _ _ _ _ _ _ _ _ _ _ _ _ _ _ _ _ _ H locs cells slots ⟨hT, hRr, hrl⟩ hP hD hS (by omega) (by omega)
  ·
    refine lv_aload_n hx hb dL_law_930 rfl (lv_at hl 2 rfl) ?_
    refine ldk (k := 1) C hS dL_law_931 dL_law_932 dL_law_933 dL_law_934 dL_law_935 (by decide) (by decide) ?_
    refine ldk (k := 2) C hS dL_law_936 dL_law_937 dL_law_938 dL_law_939 dL_law_940 (by decide) (by decide) ?_
    refine ldk (k := 3) C hS dL_law_941 dL_law_942 dL_law_943 dL_law_944 dL_law_945 (by decide) (by decide) ?_
    refine wtV (As := [.int (xs (i + 1)), .int (xs (i + 2)), .int (xs (i + 3))]) (rest := []) (ci := 4) (q0 := 0) (W1 := WL G ca ma rr sh sc RA SA R M B tc (f_sheet (xs (i + 1)) (xs (i + 2)) (xs (i + 3))) P K U tM tB P2 K2 U2 W1 N1 M1 K1 (upd ln 1 y1) (va_up L 1 y2) (va_up F 1 y3) R M B tc fl SO SL CE mP mK mU at_ rM rB RP RK RB fb fto mW mN mM mQ MO MU) hE h4 (cwV 3 hts gL_law_X4_sheet rfl rfl rfl (by decide +kernel) ⟨Nat.le_of_ble_eq_true rfl, Nat.le_of_ble_eq_true rfl⟩) hP hK hD hS [0, 10, 21, 22] (by decide +kernel) rfl (Eq.trans (b := [ca 0, ca 10, sh 1, sc 1]) rfl rfl) rfl rfl rfl rfl hl.1 rfl (Nat.le_of_ble_eq_true rfl) dL_law_946 hf0 (fun H locs hP hD hS => ?_)
    refine W.eq (g2 := F0 m 949 ls [.int (s_sheet (xs (i + 1)) (xs (i + 2)) (xs (i + 3)))]) rfl ?_
    refine lv_aload_n hx hb dL_law_949 rfl (lv_at hl 1 rfl) ?_
    refine ldk (k := 1) C hS dL_law_950 dL_law_951 dL_law_952 dL_law_953 dL_law_954 (by decide) (by decide) ?_
    refine ldk (k := 2) C hS dL_law_955 dL_law_956 dL_law_957 dL_law_958 dL_law_959 (by decide) (by decide) ?_
    refine ldk (k := 3) C hS dL_law_960 dL_law_961 dL_law_962 dL_law_963 dL_law_964 (by decide) (by decide) ?_
    refine wtV (As := [.int (xs (i + 1)), .int (xs (i + 2)), .int (xs (i + 3))]) (rest := [.int (s_sheet (xs (i + 1)) (xs (i + 2)) (xs (i + 3)))]) (ci := 5) (q0 := 27) (W1 := WL G ca ma rr sh sc RA SA R M B tc (f_sheet (xs (i + 1)) (xs (i + 2)) (xs (i + 3))) P K U tM tB P2 K2 U2 W1 N1 M1 K1 (upd ln 1 y1) (va_up L 1 y2) (va_up F 1 y3) R M B tc (f_sheet (xs (i + 1)) (xs (i + 2)) (xs (i + 3))) (shG (xs (i + 1)) (xs (i + 2)) (xs (i + 3)) (upd SO (tn (xs (i + 1))) (xs (i + 2))) SO) (shG (xs (i + 1)) (xs (i + 2)) (xs (i + 3)) (upd SL (tn (xs (i + 1))) (xs (i + 3))) SL) (shG (xs (i + 1)) (xs (i + 2)) (xs (i + 3)) (zrm CE (tn (xs (i + 1))) 60) CE) mP mK mU at_ rM rB RP RK RB fb fto mW mN mM mQ MO MU) hE (kX5_sheet l G (ma 0) fl tc (ma 1) (ma 2) (ma 3) M B (ma 4) (ma 5) (ma 6) at_ rM rB (ma 7) (ma 8) (ma 9) fb fto R (ma 10) (ma 11) (ma 12) (ma 13) (ma 14) (ma 15) SO SL CE (xs (i + 1)) (xs (i + 2)) (xs (i + 3))) (cwV 3 hts gL_law_X5_sheet rfl rfl rfl (by decide +kernel) ⟨Nat.le_of_ble_eq_true rfl, Nat.le_of_ble_eq_true rfl⟩) hP hK hD hS [27, 28, 29, 30] (by decide +kernel) rfl (Eq.trans (b := [ma 0, ma 1, ma 2, ma 3]) rfl rfl) rfl rfl rfl rfl hl.1 rfl (Nat.le_of_ble_eq_true rfl) dL_law_965 hf0 (fun H locs hP hD hS => ?_)
    refine W.eq (g2 := F0 m 968 ls [.int (s_sheet (xs (i + 1)) (xs (i + 2)) (xs (i + 3))), .int (s_sheet (xs (i + 1)) (xs (i + 2)) (xs (i + 3)))]) rfl ?_
    refine lv_icmp_eq (tgt := 1274) hx hb dL_law_968 (by decide) (fun _ => ?_) (fun c9 => absurd rfl c9)
    exact hk _ _ _ _ _ _ _ _ _ _ _ _ _ _ _ _ _ _ _ _ _ _ _ _ _ _ _ _ _ _ _ _ _ _ _ _ _ _ _ _ H locs cells slots ⟨hT, hRr, hrl⟩ hP hD hS (by omega) (by omega)
  ·
    refine lv_aload_n hx hb dL_law_930 rfl (lv_at hl 2 rfl) ?_
    refine ldk (k := 1) C hS dL_law_931 dL_law_932 dL_law_933 dL_law_934 dL_law_935 (by decide) (by decide) ?_
    refine ldk (k := 2) C hS dL_law_936 dL_law_937 dL_law_938 dL_law_939 dL_law_940 (by decide) (by decide) ?_
    refine ldk (k := 3) C hS dL_law_941 dL_law_942 dL_law_943 dL_law_944 dL_law_945 (by decide) (by decide) ?_
    refine wtV (As := [.int (xs (i + 1)), .int (xs (i + 2)), .int (xs (i + 3))]) (rest := []) (ci := 4) (q0 := 0) (W1 := WL G ca ma rr sh sc RA SA R M B tc (f_sheet (xs (i + 1)) (xs (i + 2)) (xs (i + 3))) P K U tM tB P2 K2 U2 W1 N1 M1 K1 (upd ln 2 y1) (va_up L 2 y2) (va_up F 2 y3) R M B tc fl SO SL CE mP mK mU at_ rM rB RP RK RB fb fto mW mN mM mQ MO MU) hE h4 (cwV 3 hts gL_law_X4_sheet rfl rfl rfl (by decide +kernel) ⟨Nat.le_of_ble_eq_true rfl, Nat.le_of_ble_eq_true rfl⟩) hP hK hD hS [0, 10, 23, 24] (by decide +kernel) rfl (Eq.trans (b := [ca 0, ca 10, sh 2, sc 2]) rfl rfl) rfl rfl rfl rfl hl.1 rfl (Nat.le_of_ble_eq_true rfl) dL_law_946 hf0 (fun H locs hP hD hS => ?_)
    refine W.eq (g2 := F0 m 949 ls [.int (s_sheet (xs (i + 1)) (xs (i + 2)) (xs (i + 3)))]) rfl ?_
    refine lv_aload_n hx hb dL_law_949 rfl (lv_at hl 1 rfl) ?_
    refine ldk (k := 1) C hS dL_law_950 dL_law_951 dL_law_952 dL_law_953 dL_law_954 (by decide) (by decide) ?_
    refine ldk (k := 2) C hS dL_law_955 dL_law_956 dL_law_957 dL_law_958 dL_law_959 (by decide) (by decide) ?_
    refine ldk (k := 3) C hS dL_law_960 dL_law_961 dL_law_962 dL_law_963 dL_law_964 (by decide) (by decide) ?_
    refine wtV (As := [.int (xs (i + 1)), .int (xs (i + 2)), .int (xs (i + 3))]) (rest := [.int (s_sheet (xs (i + 1)) (xs (i + 2)) (xs (i + 3)))]) (ci := 5) (q0 := 27) (W1 := WL G ca ma rr sh sc RA SA R M B tc (f_sheet (xs (i + 1)) (xs (i + 2)) (xs (i + 3))) P K U tM tB P2 K2 U2 W1 N1 M1 K1 (upd ln 2 y1) (va_up L 2 y2) (va_up F 2 y3) R M B tc (f_sheet (xs (i + 1)) (xs (i + 2)) (xs (i + 3))) (shG (xs (i + 1)) (xs (i + 2)) (xs (i + 3)) (upd SO (tn (xs (i + 1))) (xs (i + 2))) SO) (shG (xs (i + 1)) (xs (i + 2)) (xs (i + 3)) (upd SL (tn (xs (i + 1))) (xs (i + 3))) SL) (shG (xs (i + 1)) (xs (i + 2)) (xs (i + 3)) (zrm CE (tn (xs (i + 1))) 60) CE) mP mK mU at_ rM rB RP RK RB fb fto mW mN mM mQ MO MU) hE (kX5_sheet l G (ma 0) fl tc (ma 1) (ma 2) (ma 3) M B (ma 4) (ma 5) (ma 6) at_ rM rB (ma 7) (ma 8) (ma 9) fb fto R (ma 10) (ma 11) (ma 12) (ma 13) (ma 14) (ma 15) SO SL CE (xs (i + 1)) (xs (i + 2)) (xs (i + 3))) (cwV 3 hts gL_law_X5_sheet rfl rfl rfl (by decide +kernel) ⟨Nat.le_of_ble_eq_true rfl, Nat.le_of_ble_eq_true rfl⟩) hP hK hD hS [27, 28, 29, 30] (by decide +kernel) rfl (Eq.trans (b := [ma 0, ma 1, ma 2, ma 3]) rfl rfl) rfl rfl rfl rfl hl.1 rfl (Nat.le_of_ble_eq_true rfl) dL_law_965 hf0 (fun H locs hP hD hS => ?_)
    refine W.eq (g2 := F0 m 968 ls [.int (s_sheet (xs (i + 1)) (xs (i + 2)) (xs (i + 3))), .int (s_sheet (xs (i + 1)) (xs (i + 2)) (xs (i + 3)))]) rfl ?_
    refine lv_icmp_eq (tgt := 1274) hx hb dL_law_968 (by decide) (fun _ => ?_) (fun c9 => absurd rfl c9)
    exact hk _ _ _ _ _ _ _ _ _ _ _ _ _ _ _ _ _ _ _ _ _ _ _ _ _ _ _ _ _ _ _ _ _ _ _ _ _ _ _ _ H locs cells slots ⟨hT, hRr, hrl⟩ hP hD hS (by omega) (by omega)
  ·
    refine lv_aload_n hx hb dL_law_930 rfl (lv_at hl 2 rfl) ?_
    refine ldk (k := 1) C hS dL_law_931 dL_law_932 dL_law_933 dL_law_934 dL_law_935 (by decide) (by decide) ?_
    refine ldk (k := 2) C hS dL_law_936 dL_law_937 dL_law_938 dL_law_939 dL_law_940 (by decide) (by decide) ?_
    refine ldk (k := 3) C hS dL_law_941 dL_law_942 dL_law_943 dL_law_944 dL_law_945 (by decide) (by decide) ?_
    refine wtV (As := [.int (xs (i + 1)), .int (xs (i + 2)), .int (xs (i + 3))]) (rest := []) (ci := 4) (q0 := 0) (W1 := WL G ca ma rr sh sc RA SA R M B tc (f_sheet (xs (i + 1)) (xs (i + 2)) (xs (i + 3))) P K U tM tB P2 K2 U2 W1 N1 M1 K1 (upd ln 3 y1) (va_up L 3 y2) (va_up F 3 y3) R M B tc fl SO SL CE mP mK mU at_ rM rB RP RK RB fb fto mW mN mM mQ MO MU) hE h4 (cwV 3 hts gL_law_X4_sheet rfl rfl rfl (by decide +kernel) ⟨Nat.le_of_ble_eq_true rfl, Nat.le_of_ble_eq_true rfl⟩) hP hK hD hS [0, 10, 25, 26] (by decide +kernel) rfl (Eq.trans (b := [ca 0, ca 10, sh 3, sc 3]) rfl rfl) rfl rfl rfl rfl hl.1 rfl (Nat.le_of_ble_eq_true rfl) dL_law_946 hf0 (fun H locs hP hD hS => ?_)
    refine W.eq (g2 := F0 m 949 ls [.int (s_sheet (xs (i + 1)) (xs (i + 2)) (xs (i + 3)))]) rfl ?_
    refine lv_aload_n hx hb dL_law_949 rfl (lv_at hl 1 rfl) ?_
    refine ldk (k := 1) C hS dL_law_950 dL_law_951 dL_law_952 dL_law_953 dL_law_954 (by decide) (by decide) ?_
    refine ldk (k := 2) C hS dL_law_955 dL_law_956 dL_law_957 dL_law_958 dL_law_959 (by decide) (by decide) ?_
    refine ldk (k := 3) C hS dL_law_960 dL_law_961 dL_law_962 dL_law_963 dL_law_964 (by decide) (by decide) ?_
    refine wtV (As := [.int (xs (i + 1)), .int (xs (i + 2)), .int (xs (i + 3))]) (rest := [.int (s_sheet (xs (i + 1)) (xs (i + 2)) (xs (i + 3)))]) (ci := 5) (q0 := 27) (W1 := WL G ca ma rr sh sc RA SA R M B tc (f_sheet (xs (i + 1)) (xs (i + 2)) (xs (i + 3))) P K U tM tB P2 K2 U2 W1 N1 M1 K1 (upd ln 3 y1) (va_up L 3 y2) (va_up F 3 y3) R M B tc (f_sheet (xs (i + 1)) (xs (i + 2)) (xs (i + 3))) (shG (xs (i + 1)) (xs (i + 2)) (xs (i + 3)) (upd SO (tn (xs (i + 1))) (xs (i + 2))) SO) (shG (xs (i + 1)) (xs (i + 2)) (xs (i + 3)) (upd SL (tn (xs (i + 1))) (xs (i + 3))) SL) (shG (xs (i + 1)) (xs (i + 2)) (xs (i + 3)) (zrm CE (tn (xs (i + 1))) 60) CE) mP mK mU at_ rM rB RP RK RB fb fto mW mN mM mQ MO MU) hE (kX5_sheet l G (ma 0) fl tc (ma 1) (ma 2) (ma 3) M B (ma 4) (ma 5) (ma 6) at_ rM rB (ma 7) (ma 8) (ma 9) fb fto R (ma 10) (ma 11) (ma 12) (ma 13) (ma 14) (ma 15) SO SL CE (xs (i + 1)) (xs (i + 2)) (xs (i + 3))) (cwV 3 hts gL_law_X5_sheet rfl rfl rfl (by decide +kernel) ⟨Nat.le_of_ble_eq_true rfl, Nat.le_of_ble_eq_true rfl⟩) hP hK hD hS [27, 28, 29, 30] (by decide +kernel) rfl (Eq.trans (b := [ma 0, ma 1, ma 2, ma 3]) rfl rfl) rfl rfl rfl rfl hl.1 rfl (Nat.le_of_ble_eq_true rfl) dL_law_965 hf0 (fun H locs hP hD hS => ?_)
    refine W.eq (g2 := F0 m 968 ls [.int (s_sheet (xs (i + 1)) (xs (i + 2)) (xs (i + 3))), .int (s_sheet (xs (i + 1)) (xs (i + 2)) (xs (i + 3)))]) rfl ?_
    refine lv_icmp_eq (tgt := 1274) hx hb dL_law_968 (by decide) (fun _ => ?_) (fun c9 => absurd rfl c9)
    exact hk _ _ _ _ _ _ _ _ _ _ _ _ _ _ _ _ _ _ _ _ _ _ _ _ _ _ _ _ _ _ _ _ _ _ _ _ _ _ _ _ H locs cells slots ⟨hT, hRr, hrl⟩ hP hD hS (by omega) (by omega)
