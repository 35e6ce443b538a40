/-! ===== the cases of the law: copy ===== -/
set_option maxHeartbeats 4000000 in
set_option maxRecDepth 100000 in
theorem cs_copy {p : Program} {l : Launch} {e : Env} {s : State} {m : MethodId} {below : List Frame} {meth : Method} {c : Code} {Q : State → Prop} {b : Nat} {ls : Array Slot} {G : Gl} {ca ma rr sh sc : Nat → Nat} {RA SA : Nat → Option Nat} {L9 i : Nat} {xs : Nat → Int32} (C : LC p s m c b L9 i xs ls G ca ma rr sh RA SA) (hk : WW p l e s m below meth c Q b ls G ca ma rr sh sc RA SA 1274 (101 + i) (2005 + i)) : WW p l e s m below meth c Q b ls G ca ma rr sh sc RA SA 1083 (100 + i) (2000 + i) := by
  intro R M B tc fl P K U tM tB P2 K2 U2 W1 N1 M1 K1 ln L F SO SL CE mP mK mU at_ rM rB RP RK RB fb fto mW mN mM mQ MO MU H locs cells slots hr hP hD hS hcb hsb
  obtain ⟨hE, hX, hbl, hK, hRA, hSA, hi, hL9, hl⟩ := id C
  obtain ⟨hx, hb, hml, hown, hts⟩ := id hE
  obtain ⟨hT, hRr, hSs⟩ := id hr
  obtain ⟨hM, hB, hMB, hp, hz, h9, hkk, hkd, hu, hub⟩ := id hT
  have hf0 : cells + 0 ≤ room_1.cells ∧ slots + 0 ≤ room_1.slots := ⟨by show cells + 0 ≤ 600000; omega, by show slots + 0 ≤ 7302250; omega⟩
  rcases sh_two (xs (i + 1)) (xs (i + 3)) with ⟨e3, j, hj4, hj⟩ | ⟨j, j2, hj4, hj24, hne, hj, hj2⟩
  ·
    have hSj := hSs j hj4
    obtain ⟨hL60, heK, ⟨L1, hL1a, hL1b, hL1c⟩, hcel⟩ := id hSj
    have hsh : ∀ q, q < 4 → (xs (i + 1)) = nI q → SA q = some (sh j) := fun q hq e => by rw [hj q hq e]; exact hSA j hj4
    have hlk : ∀ q, q < 4 → (xs (i + 1)) = nI q → SL q = nI L1 := fun q hq e => by rw [hj q hq e]; exact hL1b
    have hc := kX5_copy l G (ma 0) fl tc (ma 1) (ma 2) (ma 3) M B (ma 4) (ma 5) (ma 6) at_ rM rB (ma 7) (ma 8) (ma 9) fb fto R (ma 10) (ma 11) (ma 12) (ma 13) (ma 14) (ma 15) SO SL CE L1 L1 (xs (i + 1)) (xs (i + 2)) (xs (i + 1)) (xs (i + 4)) (xs (i + 5)) hlk hlk hL1a hL1a
    rw [← a_fcopy hSj hSj hL1c hL1c hj hj] at hc
    have h4 := kX4_copy1 l G (ca 0) (ca 1) (ca 5) (ca 9) (ca 10) R tc fl SA (sh j) (sc j) (ln j) (L j) (F j) (xs (i + 1)) (xs (i + 2)) (xs (i + 4)) (xs (i + 5)) hsh hL60
    obtain ⟨y3, ey3⟩ : ∃ z, z = cpG (-1) (ln j) (ln j) (L j) (L j) (xs (i + 1)) (xs (i + 1)) (xs (i + 2)) (xs (i + 4)) (xs (i + 5)) (va_cpy (F j) (F j) (tn (xs (i + 2))) (tn (xs (i + 4))) (tn (xs (i + 5)))) (F j) := ⟨_, rfl⟩
    rw [← ey3] at h4
    have hrl := k_copy hSs hj hj hL1c hL1c (xs (i + 2)) (xs (i + 4)) (xs (i + 5))
    rw [← ey3] at hrl
    rcases (show j = 0 ∨ j = 1 ∨ j = 2 ∨ j = 3 by omega) with rfl | rfl | rfl | rfl
    ·
      refine lv_aload_n hx hb dL_law_1083 rfl (lv_at hl 2 rfl) ?_
      refine ldk (k := 1) C hS dL_law_1084 dL_law_1085 dL_law_1086 dL_law_1087 dL_law_1088 (by decide) (by decide) ?_
      refine ldk (k := 2) C hS dL_law_1089 dL_law_1090 dL_law_1091 dL_law_1092 dL_law_1093 (by decide) (by decide) ?_
      refine ldk (k := 3) C hS dL_law_1094 dL_law_1095 dL_law_1096 dL_law_1097 dL_law_1098 (by decide) (by decide) ?_
      refine ldk (k := 4) C hS dL_law_1099 dL_law_1100 dL_law_1101 dL_law_1102 dL_law_1103 (by decide) (by decide) ?_
      refine ldk (k := 5) C hS dL_law_1104 dL_law_1105 dL_law_1106 dL_law_1107 dL_law_1108 (by decide) (by decide) ?_
      rw [e3]
      refine wtV (As := [.int (xs (i + 1)), .int (xs (i + 2)), .int (xs (i + 1)), .int (xs (i + 4)), .int (xs (i + 5))]) (rest := []) (ci := 4) (q0 := 0) (W1 := WL G ca ma rr sh sc RA SA R M B tc (f_copy (-1) (ln 0) (ln 0) (L 0) (L 0) (xs (i + 1)) (xs (i + 1)) (xs (i + 2)) (xs (i + 4)) (xs (i + 5))) P K U tM tB P2 K2 U2 W1 N1 M1 K1 ln L (va_up F 0 y3) R M B tc fl SO SL CE mP mK mU at_ rM rB RP RK RB fb fto mW mN mM mQ MO MU) hE h4 (cwV 5 hts gL_law_X4_copy rfl rfl rfl (by decide +kernel) ⟨Nat.le_of_ble_eq_true rfl, Nat.le_of_ble_eq_true rfl⟩) hP hK hD hS [0, 10, 19, 20] (by decide +kernel) rfl (Eq.trans (b := [ca 0, ca 10, sh 0, sc 0]) rfl rfl) rfl rfl rfl rfl hl.1 rfl (Nat.le_of_ble_eq_true rfl) dL_law_1109 hf0 (fun H locs hP hD hS => ?_)
      refine W.eq (g2 := F0 m 1112 ls [.int (s_copy (-1) (ln 0) (ln 0) (L 0) (L 0) (xs (i + 1)) (xs (i + 1)) (xs (i + 2)) (xs (i + 4)) (xs (i + 5)))]) rfl ?_
      refine lv_aload_n hx hb dL_law_1112 rfl (lv_at hl 1 rfl) ?_
      refine ldk (k := 1) C hS dL_law_1113 dL_law_1114 dL_law_1115 dL_law_1116 dL_law_1117 (by decide) (by decide) ?_
      refine ldk (k := 2) C hS dL_law_1118 dL_law_1119 dL_law_1120 dL_law_1121 dL_law_1122 (by decide) (by decide) ?_
      refine ldk (k := 3) C hS dL_law_1123 dL_law_1124 dL_law_1125 dL_law_1126 dL_law_1127 (by decide) (by decide) ?_
      refine ldk (k := 4) C hS dL_law_1128 dL_law_1129 dL_law_1130 dL_law_1131 dL_law_1132 (by decide) (by decide) ?_
      refine ldk (k := 5) C hS dL_law_1133 dL_law_1134 dL_law_1135 dL_law_1136 dL_law_1137 (by decide) (by decide) ?_
      rw [e3]
      refine wtV (As := [.int (xs (i + 1)), .int (xs (i + 2)), .int (xs (i + 1)), .int (xs (i + 4)), .int (xs (i + 5))]) (rest := [.int (s_copy (-1) (ln 0) (ln 0) (L 0) (L 0) (xs (i + 1)) (xs (i + 1)) (xs (i + 2)) (xs (i + 4)) (xs (i + 5)))]) (ci := 5) (q0 := 27) (W1 := WL G ca ma rr sh sc RA SA R M B tc (f_copy (-1) (ln 0) (ln 0) (L 0) (L 0) (xs (i + 1)) (xs (i + 1)) (xs (i + 2)) (xs (i + 4)) (xs (i + 5))) P K U tM tB P2 K2 U2 W1 N1 M1 K1 ln L (va_up F 0 y3) R M B tc (f_copy (-1) (ln 0) (ln 0) (L 0) (L 0) (xs (i + 1)) (xs (i + 1)) (xs (i + 2)) (xs (i + 4)) (xs (i + 5))) SO SL (cpG (-9) (SO (tn (xs (i + 1)))) (SO (tn (xs (i + 1)))) L1 L1 (xs (i + 1)) (xs (i + 1)) (xs (i + 2)) (xs (i + 4)) (xs (i + 5)) (va_cpy CE CE (60 * tn (xs (i + 1)) + tn (xs (i + 2))) (60 * tn (xs (i + 1)) + tn (xs (i + 4))) (tn (xs (i + 5)))) CE) mP mK mU at_ rM rB RP RK RB fb fto mW mN mM mQ MO MU) hE hc (cwV 5 hts gL_law_X5_copy rfl rfl rfl (by decide +kernel) ⟨Nat.le_of_ble_eq_true rfl, Nat.le_of_ble_eq_true rfl⟩) hP hK hD hS [27, 28, 29, 30] (by decide +kernel) rfl (Eq.trans (b := [ma 0, ma 1, ma 2, ma 3]) rfl rfl) rfl rfl rfl rfl hl.1 rfl (Nat.le_of_ble_eq_true rfl) dL_law_1138 hf0 (fun H locs hP hD hS => ?_)
      refine W.eq (g2 := F0 m 1141 ls [.int (s_copy (-9) (SO (tn (xs (i + 1)))) (SO (tn (xs (i + 1)))) L1 L1 (xs (i + 1)) (xs (i + 1)) (xs (i + 2)) (xs (i + 4)) (xs (i + 5))), .int (s_copy (-1) (ln 0) (ln 0) (L 0) (L 0) (xs (i + 1)) (xs (i + 1)) (xs (i + 2)) (xs (i + 4)) (xs (i + 5)))]) rfl ?_
      refine lv_icmp_eq (tgt := 1274) hx hb dL_law_1141 (by decide) (fun _ => ?_) (fun c9 => absurd (a_copy hSj hSj hL1c hL1c hj hj (xs (i + 2)) (xs (i + 4)) (xs (i + 5))) c9)
      exact hk _ _ _ _ _ _ _ _ _ _ _ _ _ _ _ _ _ _ _ _ _ _ _ _ _ _ _ _ _ _ _ _ _ _ _ _ _ _ _ _ H locs cells slots ⟨hT, hRr, hrl⟩ hP hD hS (by omega) (by omega)
    ·
      refine lv_aload_n hx hb dL_law_1083 rfl (lv_at hl 2 rfl) ?_
      refine ldk (k := 1) C hS dL_law_1084 dL_law_1085 dL_law_1086 dL_law_1087 dL_law_1088 (by decide) (by decide) ?_
      refine ldk (k := 2) C hS dL_law_1089 dL_law_1090 dL_law_1091 dL_law_1092 dL_law_1093 (by decide) (by decide) ?_
      refine ldk (k := 3) C hS dL_law_1094 dL_law_1095 dL_law_1096 dL_law_1097 dL_law_1098 (by decide) (by decide) ?_
      refine ldk (k := 4) C hS dL_law_1099 dL_law_1100 dL_law_1101 dL_law_1102 dL_law_1103 (by decide) (by decide) ?_
      refine ldk (k := 5) C hS dL_law_1104 dL_law_1105 dL_law_1106 dL_law_1107 dL_law_1108 (by decide) (by decide) ?_
      rw [e3]
      refine wtV (As := [.int (xs (i + 1)), .int (xs (i + 2)), .int (xs (i + 1)), .int (xs (i + 4)), .int (xs (i + 5))]) (rest := []) (ci := 4) (q0 := 0) (W1 := WL G ca ma rr sh sc RA SA R M B tc (f_copy (-1) (ln 1) (ln 1) (L 1) (L 1) (xs (i + 1)) (xs (i + 1)) (xs (i + 2)) (xs (i + 4)) (xs (i + 5))) P K U tM tB P2 K2 U2 W1 N1 M1 K1 ln L (va_up F 1 y3) R M B tc fl SO SL CE mP mK mU at_ rM rB RP RK RB fb fto mW mN mM mQ MO MU) hE h4 (cwV 5 hts gL_law_X4_copy rfl rfl rfl (by decide +kernel) ⟨Nat.le_of_ble_eq_true rfl, Nat.le_of_ble_eq_true rfl⟩) hP hK hD hS [0, 10, 21, 22] (by decide +kernel) rfl (Eq.trans (b := [ca 0, ca 10, sh 1, sc 1]) rfl rfl) rfl rfl rfl rfl hl.1 rfl (Nat.le_of_ble_eq_true rfl) dL_law_1109 hf0 (fun H locs hP hD hS => ?_)
      refine W.eq (g2 := F0 m 1112 ls [.int (s_copy (-1) (ln 1) (ln 1) (L 1) (L 1) (xs (i + 1)) (xs (i + 1)) (xs (i + 2)) (xs (i + 4)) (xs (i + 5)))]) rfl ?_
      refine lv_aload_n hx hb dL_law_1112 rfl (lv_at hl 1 rfl) ?_
      refine ldk (k := 1) C hS dL_law_1113 dL_law_1114 dL_law_1115 dL_law_1116 dL_law_1117 (by decide) (by decide) ?_
      refine ldk (k := 2) C hS dL_law_1118 dL_law_1119 dL_law_1120 dL_law_1121 dL_law_1122 (by decide) (by decide) ?_
      refine ldk (k := 3) C hS dL_law_1123 dL_law_1124 dL_law_1125 dL_law_1126 dL_law_1127 (by decide) (by decide) ?_
      refine ldk (k := 4) C hS dL_law_1128 dL_law_1129 dL_law_1130 dL_law_1131 dL_law_1132 (by decide) (by decide) ?_
      refine ldk (k := 5) C hS dL_law_1133 dL_law_1134 dL_law_1135 dL_law_1136 dL_law_1137 (by decide) (by decide) ?_
      rw [e3]
      refine wtV (As := [.int (xs (i + 1)), .int (xs (i + 2)), .int (xs (i + 1)), .int (xs (i + 4)), .int (xs (i + 5))]) (rest := [.int (s_copy (-1) (ln 1) (ln 1) (L 1) (L 1) (xs (i + 1)) (xs (i + 1)) (xs (i + 2)) (xs (i + 4)) (xs (i + 5)))]) (ci := 5) (q0 := 27) (W1 := WL G ca ma rr sh sc RA SA R M B tc (f_copy (-1) (ln 1) (ln 1) (L 1) (L 1) (xs (i + 1)) (xs (i + 1)) (xs (i + 2)) (xs (i + 4)) (xs (i + 5))) P K U tM tB P2 K2 U2 W1 N1 M1 K1 ln L (va_up F 1 y3) R M B tc (f_copy (-1) (ln 1) (ln 1) (L 1) (L 1) (xs (i + 1)) (xs (i + 1)) (xs (i + 2)) (xs (i + 4)) (xs (i + 5))) SO SL (cpG (-9) (SO (tn (xs (i + 1)))) (SO (tn (xs (i + 1)))) L1 L1 (xs (i + 1)) (xs (i + 1)) (xs (i + 2)) (xs (i + 4)) (xs (i + 5)) (va_cpy CE CE (60 * tn (xs (i + 1)) + tn (xs (i + 2))) (60 * tn (xs (i + 1)) + tn (xs (i + 4))) (tn (xs (i + 5)))) CE) mP mK mU at_ rM rB RP RK RB fb fto mW mN mM mQ MO MU) hE hc (cwV 5 hts gL_law_X5_copy rfl rfl rfl (by decide +kernel) ⟨Nat.le_of_ble_eq_true rfl, Nat.le_of_ble_eq_true rfl⟩) hP hK hD hS [27, 28, 29, 30] (by decide +kernel) rfl (Eq.trans (b := [ma 0, ma 1, ma 2, ma 3]) rfl rfl) rfl rfl rfl rfl hl.1 rfl (Nat.le_of_ble_eq_true rfl) dL_law_1138 hf0 (fun H locs hP hD hS => ?_)
      refine W.eq (g2 := F0 m 1141 ls [.int (s_copy (-9) (SO (tn (xs (i + 1)))) (SO (tn (xs (i + 1)))) L1 L1 (xs (i + 1)) (xs (i + 1)) (xs (i + 2)) (xs (i + 4)) (xs (i + 5))), .int (s_copy (-1) (ln 1) (ln 1) (L 1) (L 1) (xs (i + 1)) (xs (i + 1)) (xs (i + 2)) (xs (i + 4)) (xs (i + 5)))]) rfl ?_
      refine lv_icmp_eq (tgt := 1274) hx hb dL_law_1141 (by decide) (fun _ => ?_) (fun c9 => absurd (a_copy hSj hSj hL1c hL1c hj hj (xs (i + 2)) (xs (i + 4)) (xs (i + 5))) c9)
      exact hk _ _ _ _ _ _ _ _ _ _ _ _ _ _ _ _ _ _ _ _ _ _ _ _ _ _ _ _ _ _ _ _ _ _ _ _ _ _ _ _ H locs cells slots ⟨hT, hRr, hrl⟩ hP hD hS (by omega) (by omega)
    ·
      refine lv_aload_n hx hb dL_law_1083 rfl (lv_at hl 2 rfl) ?_
      refine ldk (k := 1) C hS dL_law_1084 dL_law_1085 dL_law_1086 dL_law_1087 dL_law_1088 (by decide) (by decide) ?_
      refine ldk (k := 2) C hS dL_law_1089 dL_law_1090 dL_law_1091 dL_law_1092 dL_law_1093 (by decide) (by decide) ?_
      refine ldk (k := 3) C hS dL_law_1094 dL_law_1095 dL_law_1096 dL_law_1097 dL_law_1098 (by decide) (by decide) ?_
      refine ldk (k := 4) C hS dL_law_1099 dL_law_1100 dL_law_1101 dL_law_1102 dL_law_1103 (by decide) (by decide) ?_
      refine ldk (k := 5) C hS dL_law_1104 dL_law_1105 dL_law_1106 dL_law_1107 dL_law_1108 (by decide) (by decide) ?_
      rw [e3]
      refine wtV (As := [.int (xs (i + 1)), .int (xs (i + 2)), .int (xs (i + 1)), .int (xs (i + 4)), .int (xs (i + 5))]) (rest := []) (ci := 4) (q0 := 0) (W1 := WL G ca ma rr sh sc RA SA R M B tc (f_copy (-1) (ln 2) (ln 2) (L 2) (L 2) (xs (i + 1)) (xs (i + 1)) (xs (i + 2)) (xs (i + 4)) (xs (i + 5))) P K U tM tB P2 K2 U2 W1 N1 M1 K1 ln L (va_up F 2 y3) R M B tc fl SO SL CE mP mK mU at_ rM rB RP RK RB fb fto mW mN mM mQ MO MU) hE h4 (cwV 5 hts gL_law_X4_copy rfl rfl rfl (by decide +kernel) ⟨Nat.le_of_ble_eq_true rfl, Nat.le_of_ble_eq_true rfl⟩) hP hK hD hS [0, 10, 23, 24] (by decide +kernel) rfl (Eq.trans (b := [ca 0, ca 10, sh 2, sc 2]) rfl rfl) rfl rfl rfl rfl hl.1 rfl (Nat.le_of_ble_eq_true rfl) dL_law_1109 hf0 (fun H locs hP hD hS => ?_)
      refine W.eq (g2 := F0 m 1112 ls [.int (s_copy (-1) (ln 2) (ln 2) (L 2) (L 2) (xs (i + 1)) (xs (i + 1)) (xs (i + 2)) (xs (i + 4)) (xs (i + 5)))]) rfl ?_
      refine lv_aload_n hx hb dL_law_1112 rfl (lv_at hl 1 rfl) ?_
      refine ldk (k := 1) C hS dL_law_1113 dL_law_1114 dL_law_1115 dL_law_1116 dL_law_1117 (by decide) (by decide) ?_
      refine ldk (k := 2) C hS dL_law_1118 dL_law_1119 dL_law_1120 dL_law_1121 dL_law_1122 (by decide) (by decide) ?_
      refine ldk (k := 3) C hS dL_law_1123 dL_law_1124 dL_law_1125 dL_law_1126 dL_law_1127 (by decide) (by decide) ?_
      refine ldk (k := 4) C hS dL_law_1128 dL_law_1129 dL_law_1130 dL_law_1131 dL_law_1132 (by decide) (by decide) ?_
      refine ldk (k := 5) C hS dL_law_1133 dL_law_1134 dL_law_1135 dL_law_1136 dL_law_1137 (by decide) (by decide) ?_
      rw [e3]
      refine wtV (As := [.int (xs (i + 1)), .int (xs (i + 2)), .int (xs (i + 1)), .int (xs (i + 4)), .int (xs (i + 5))]) (rest := [.int (s_copy (-1) (ln 2) (ln 2) (L 2) (L 2) (xs (i + 1)) (xs (i + 1)) (xs (i + 2)) (xs (i + 4)) (xs (i + 5)))]) (ci := 5) (q0 := 27) (W1 := WL G ca ma rr sh sc RA SA R M B tc (f_copy (-1) (ln 2) (ln 2) (L 2) (L 2) (xs (i + 1)) (xs (i + 1)) (xs (i + 2)) (xs (i + 4)) (xs (i + 5))) P K U tM tB P2 K2 U2 W1 N1 M1 K1 ln L (va_up F 2 y3) R M B tc (f_copy (-1) (ln 2) (ln 2) (L 2) (L 2) (xs (i + 1)) (xs (i + 1)) (xs (i + 2)) (xs (i + 4)) (xs (i + 5))) SO SL (cpG (-9) (SO (tn (xs (i + 1)))) (SO (tn (xs (i + 1)))) L1 L1 (xs (i + 1)) (xs (i + 1)) (xs (i + 2)) (xs (i + 4)) (xs (i + 5)) (va_cpy CE CE (60 * tn (xs (i + 1)) + tn (xs (i + 2))) (60 * tn (xs (i + 1)) + tn (xs (i + 4))) (tn (xs (i + 5)))) CE) mP mK mU at_ rM rB RP RK RB fb fto mW mN mM mQ MO MU) hE hc (cwV 5 hts gL_law_X5_copy rfl rfl rfl (by decide +kernel) ⟨Nat.le_of_ble_eq_true rfl, Nat.le_of_ble_eq_true rfl⟩) hP hK hD hS [27, 28, 29, 30] (by decide +kernel) rfl (Eq.trans (b := [ma 0, ma 1, ma 2, ma 3]) rfl rfl) rfl rfl rfl rfl hl.1 rfl (Nat.le_of_ble_eq_true rfl) dL_law_1138 hf0 (fun H locs hP hD hS => ?_)
      refine W.eq (g2 := F0 m 1141 ls [.int (s_copy (-9) (SO (tn (xs (i + 1)))) (SO (tn (xs (i + 1)))) L1 L1 (xs (i + 1)) (xs (i + 1)) (xs (i + 2)) (xs (i + 4)) (xs (i + 5))), .int (s_copy (-1) (ln 2) (ln 2) (L 2) (L 2) (xs (i + 1)) (xs (i + 1)) (xs (i + 2)) (xs (i + 4)) (xs (i + 5)))]) rfl ?_
      refine lv_icmp_eq (tgt := 1274) hx hb dL_law_1141 (by decide) (fun _ => ?_) (fun c9 => absurd (a_copy hSj hSj hL1c hL1c hj hj (xs (i + 2)) (xs (i + 4)) (xs (i + 5))) c9)
      exact hk _ _ _ _ _ _ _ _ _ _ _ _ _ _ _ _ _ _ _ _ _ _ _ _ _ _ _ _ _ _ _ _ _ _ _ _ _ _ _ _ H locs cells slots ⟨hT, hRr, hrl⟩ hP hD hS (by omega) (by omega)
    ·
      refine lv_aload_n hx hb dL_law_1083 rfl (lv_at hl 2 rfl) ?_
      refine ldk (k := 1) C hS dL_law_1084 dL_law_1085 dL_law_1086 dL_law_1087 dL_law_1088 (by decide) (by decide) ?_
      refine ldk (k := 2) C hS dL_law_1089 dL_law_1090 dL_law_1091 dL_law_1092 dL_law_1093 (by decide) (by decide) ?_
      refine ldk (k := 3) C hS dL_law_1094 dL_law_1095 dL_law_1096 dL_law_1097 dL_law_1098 (by decide) (by decide) ?_
      refine ldk (k := 4) C hS dL_law_1099 dL_law_1100 dL_law_1101 dL_law_1102 dL_law_1103 (by decide) (by decide) ?_
      refine ldk (k := 5) C hS dL_law_1104 dL_law_1105 dL_law_1106 dL_law_1107 dL_law_1108 (by decide) (by decide) ?_
      rw [e3]
      refine wtV (As := [.int (xs (i + 1)), .int (xs (i + 2)), .int (xs (i + 1)), .int (xs (i + 4)), .int (xs (i + 5))]) (rest := []) (ci := 4) (q0 := 0) (W1 := WL G ca ma rr sh sc RA SA R M B tc (f_copy (-1) (ln 3) (ln 3) (L 3) (L 3) (xs (i + 1)) (xs (i + 1)) (xs (i + 2)) (xs (i + 4)) (xs (i + 5))) P K U tM tB P2 K2 U2 W1 N1 M1 K1 ln L (va_up F 3 y3) R M B tc fl SO SL CE mP mK mU at_ rM rB RP RK RB fb fto mW mN mM mQ MO MU) hE h4 (cwV 5 hts gL_law_X4_copy rfl rfl rfl (by decide +kernel) ⟨Nat.le_of_ble_eq_true rfl, Nat.le_of_ble_eq_true rfl⟩) hP hK hD hS [0, 10, 25, 26] (by decide +kernel) rfl (Eq.trans (b := [ca 0, ca 10, sh 3, sc 3]) rfl rfl) rfl rfl rfl rfl hl.1 rfl (Nat.le_of_ble_eq_true rfl) dL_law_1109 hf0 (fun H locs hP hD hS => ?_)
      refine W.eq (g2 := F0 m 1112 ls [.int (s_copy (-1) (ln 3) (ln 3) (L 3) (L 3) (xs (i + 1)) (xs (i + 1)) (xs (i + 2)) (xs (i + 4)) (xs (i + 5)))]) rfl ?_
      refine lv_aload_n hx hb dL_law_1112 rfl (lv_at hl 1 rfl) ?_
      refine ldk (k := 1) C hS dL_law_1113 dL_law_1114 dL_law_1115 dL_law_1116 dL_law_1117 (by decide) (by decide) ?_
      refine ldk (k := 2) C hS dL_law_1118 dL_law_1119 dL_law_1120 dL_law_1121 dL_law_1122 (by decide) (by decide) ?_
      refine ldk (k := 3) C hS dL_law_1123 dL_law_1124 dL_law_1125 dL_law_1126 dL_law_1127 (by decide) (by decide) ?_
      refine ldk (k := 4) C hS dL_law_1128 dL_law_1129 dL_law_1130 dL_law_1131 dL_law_1132 (by decide) (by decide) ?_
      refine ldk (k := 5) C hS dL_law_1133 dL_law_1134 dL_law_1135 dL_law_1136 dL_law_1137 (by decide) (by decide) ?_
      rw [e3]
      refine wtV (As := [.int (xs (i + 1)), .int (xs (i + 2)), .int (xs (i + 1)), .int (xs (i + 4)), .int (xs (i + 5))]) (rest := [.int (s_copy (-1) (ln 3) (ln 3) (L 3) (L 3) (xs (i + 1)) (xs (i + 1)) (xs (i + 2)) (xs (i + 4)) (xs (i + 5)))]) (ci := 5) (q0 := 27) (W1 := WL G ca ma rr sh sc RA SA R M B tc (f_copy (-1) (ln 3) (ln 3) (L 3) (L 3) (xs (i + 1)) (xs (i + 1)) (xs (i + 2)) (xs (i + 4)) (xs (i + 5))) P K U tM tB P2 K2 U2 W1 N1 M1 K1 ln L (va_up F 3 y3) R M B tc (f_copy (-1) (ln 3) (ln 3) (L 3) (L 3) (xs (i + 1)) (xs (i + 1)) (xs (i + 2)) (xs (i + 4)) (xs (i + 5))) SO SL (cpG (-9) (SO (tn (xs (i + 1)))) (SO (tn (xs (i + 1)))) L1 L1 (xs (i + 1)) (xs (i + 1)) (xs (i + 2)) (xs (i + 4)) (xs (i + 5)) (va_cpy CE CE (60 * tn (xs (i + 1)) + tn (xs (i + 2))) (60 * tn (xs (i + 1)) + tn (xs (i + 4))) (tn (xs (i + 5)))) CE) mP mK mU at_ rM rB RP RK RB fb fto mW mN mM mQ MO MU) hE hc (cwV 5 hts gL_law_X5_copy rfl rfl rfl (by decide +kernel) ⟨Nat.le_of_ble_eq_true rfl, Nat.le_of_ble_eq_true rfl⟩) hP hK hD hS [27, 28, 29, 30] (by decide +kernel) rfl (Eq.trans (b := [ma 0, ma 1, ma 2, ma 3]) rfl rfl) rfl rfl rfl rfl hl.1 rfl (Nat.le_of_ble_eq_true rfl) dL_law_1138 hf0 (fun H locs hP hD hS => ?_)
      refine W.eq (g2 := F0 m 1141 ls [.int (s_copy (-9) (SO (tn (xs (i + 1)))) (SO (tn (xs (i + 1)))) L1 L1 (xs (i + 1)) (xs (i + 1)) (xs (i + 2)) (xs (i + 4)) (xs (i + 5))), .int (s_copy (-1) (ln 3) (ln 3) (L 3) (L 3) (xs (i + 1)) (xs (i + 1)) (xs (i + 2)) (xs (i + 4)) (xs (i + 5)))]) rfl ?_
      refine lv_icmp_eq (tgt := 1274) hx hb dL_law_1141 (by decide) (fun _ => ?_) (fun c9 => absurd (a_copy hSj hSj hL1c hL1c hj hj (xs (i + 2)) (xs (i + 4)) (xs (i + 5))) c9)
      exact hk _ _ _ _ _ _ _ _ _ _ _ _ _ _ _ _ _ _ _ _ _ _ _ _ _ _ _ _ _ _ _ _ _ _ _ _ _ _ _ _ H locs cells slots ⟨hT, hRr, hrl⟩ hP hD hS (by omega) (by omega)
  ·
    have hSj := hSs j hj4
    obtain ⟨hL60, heK, ⟨L1, hL1a, hL1b, hL1c⟩, hcel⟩ := id hSj
    have hsh : ∀ q, q < 4 → (xs (i + 1)) = nI q → SA q = some (sh j) := fun q hq e => by rw [hj q hq e]; exact hSA j hj4
    have hlk : ∀ q, q < 4 → (xs (i + 1)) = nI q → SL q = nI L1 := fun q hq e => by rw [hj q hq e]; exact hL1b
    have hSj2 := hSs j2 hj24
    obtain ⟨hL602, heK2, ⟨L2, hL2a, hL2b, hL2c⟩, hcel2⟩ := id hSj2
    have hso : ∀ q, q < 4 → (xs (i + 3)) = nI q → SA q = some (sh j2) := fun q hq e => by rw [hj2 q hq e]; exact hSA j2 hj24
    have hlk2 : ∀ q, q < 4 → (xs (i + 3)) = nI q → SL q = nI L2 := fun q hq e => by rw [hj2 q hq e]; exact hL2b
    have hc := kX5_copy l G (ma 0) fl tc (ma 1) (ma 2) (ma 3) M B (ma 4) (ma 5) (ma 6) at_ rM rB (ma 7) (ma 8) (ma 9) fb fto R (ma 10) (ma 11) (ma 12) (ma 13) (ma 14) (ma 15) SO SL CE L1 L2 (xs (i + 1)) (xs (i + 2)) (xs (i + 3)) (xs (i + 4)) (xs (i + 5)) hlk hlk2 hL1a hL2a
    rw [← a_fcopy hSj hSj2 hL1c hL2c hj hj2] at hc
    have h4 := kX4_copy l G (ca 0) (ca 1) (ca 5) (ca 9) (ca 10) R tc fl SA (sh j) (sc j) (ln j) (L j) (F j) (sh j2) (sc j2) (ln j2) (L j2) (F j2) (xs (i + 1)) (xs (i + 2)) (xs (i + 3)) (xs (i + 4)) (xs (i + 5)) hsh hso hL60 hL602
    obtain ⟨y3, ey3⟩ : ∃ z, z = cpG (-1) (ln j) (ln j2) (L j) (L j2) (xs (i + 1)) (xs (i + 3)) (xs (i + 2)) (xs (i + 4)) (xs (i + 5)) (va_cpy (F j) (F j2) (tn (xs (i + 2))) (tn (xs (i + 4))) (tn (xs (i + 5)))) (F j2) := ⟨_, rfl⟩
    rw [← ey3] at h4
    have hrl := k_copy hSs hj hj2 hL1c hL2c (xs (i + 2)) (xs (i + 4)) (xs (i + 5))
    rw [← ey3] at hrl
    rcases (show j = 0 ∨ j = 1 ∨ j = 2 ∨ j = 3 by omega) with rfl | rfl | rfl | rfl
    ·
      rcases (show j2 = 0 ∨ j2 = 1 ∨ j2 = 2 ∨ j2 = 3 by omega) with rfl | rfl | rfl | rfl
      · exact absurd rfl hne
      ·
        refine lv_aload_n hx hb dL_law_1083 rfl (lv_at hl 2 rfl) ?_
        refine ldk (k := 1) C hS dL_law_1084 dL_law_1085 dL_law_1086 dL_law_1087 dL_law_1088 (by decide) (by decide) ?_
        refine ldk (k := 2) C hS dL_law_1089 dL_law_1090 dL_law_1091 dL_law_1092 dL_law_1093 (by decide) (by decide) ?_
        refine ldk (k := 3) C hS dL_law_1094 dL_law_1095 dL_law_1096 dL_law_1097 dL_law_1098 (by decide) (by decide) ?_
        refine ldk (k := 4) C hS dL_law_1099 dL_law_1100 dL_law_1101 dL_law_1102 dL_law_1103 (by decide) (by decide) ?_
        refine ldk (k := 5) C hS dL_law_1104 dL_law_1105 dL_law_1106 dL_law_1107 dL_law_1108 (by decide) (by decide) ?_
        refine wtV (As := [.int (xs (i + 1)), .int (xs (i + 2)), .int (xs (i + 3)), .int (xs (i + 4)), .int (xs (i + 5))]) (rest := []) (ci := 4) (q0 := 0) (W1 := WL G ca ma rr sh sc RA SA R M B tc (f_copy (-1) (ln 0) (ln 1) (L 0) (L 1) (xs (i + 1)) (xs (i + 3)) (xs (i + 2)) (xs (i + 4)) (xs (i + 5))) P K U tM tB P2 K2 U2 W1 N1 M1 K1 ln L (va_up F 1 y3) R M B tc fl SO SL CE mP mK mU at_ rM rB RP RK RB fb fto mW mN mM mQ MO MU) hE h4 (cwV 5 hts gL_law_X4_copy rfl rfl rfl (by decide +kernel) ⟨Nat.le_of_ble_eq_true rfl, Nat.le_of_ble_eq_true rfl⟩) hP hK hD hS [0, 10, 19, 20, 21, 22] (by decide +kernel) rfl (Eq.trans (b := [ca 0, ca 10, sh 0, sc 0, sh 1, sc 1]) rfl rfl) rfl rfl rfl rfl hl.1 rfl (Nat.le_of_ble_eq_true rfl) dL_law_1109 hf0 (fun H locs hP hD hS => ?_)
        refine W.eq (g2 := F0 m 1112 ls [.int (s_copy (-1) (ln 0) (ln 1) (L 0) (L 1) (xs (i + 1)) (xs (i + 3)) (xs (i + 2)) (xs (i + 4)) (xs (i + 5)))]) rfl ?_
        refine lv_aload_n hx hb dL_law_1112 rfl (lv_at hl 1 rfl) ?_
        refine ldk (k := 1) C hS dL_law_1113 dL_law_1114 dL_law_1115 dL_law_1116 dL_law_1117 (by decide) (by decide) ?_
        refine ldk (k := 2) C hS dL_law_1118 dL_law_1119 dL_law_1120 dL_law_1121 dL_law_1122 (by decide) (by decide) ?_
        refine ldk (k := 3) C hS dL_law_1123 dL_law_1124 dL_law_1125 dL_law_1126 dL_law_1127 (by decide) (by decide) ?_
        refine ldk (k := 4) C hS dL_law_1128 dL_law_1129 dL_law_1130 dL_law_1131 dL_law_1132 (by decide) (by decide) ?_
        refine ldk (k := 5) C hS dL_law_1133 dL_law_1134 dL_law_1135 dL_law_1136 dL_law_1137 (by decide) (by decide) ?_
        refine wtV (As := [.int (xs (i + 1)), .int (xs (i + 2)), .int (xs (i + 3)), .int (xs (i + 4)), .int (xs (i + 5))]) (rest := [.int (s_copy (-1) (ln 0) (ln 1) (L 0) (L 1) (xs (i + 1)) (xs (i + 3)) (xs (i + 2)) (xs (i + 4)) (xs (i + 5)))]) (ci := 5) (q0 := 27) (W1 := WL G ca ma rr sh sc RA SA R M B tc (f_copy (-1) (ln 0) (ln 1) (L 0) (L 1) (xs (i + 1)) (xs (i + 3)) (xs (i + 2)) (xs (i + 4)) (xs (i + 5))) P K U tM tB P2 K2 U2 W1 N1 M1 K1 ln L (va_up F 1 y3) R M B tc (f_copy (-1) (ln 0) (ln 1) (L 0) (L 1) (xs (i + 1)) (xs (i + 3)) (xs (i + 2)) (xs (i + 4)) (xs (i + 5))) SO SL (cpG (-9) (SO (tn (xs (i + 1)))) (SO (tn (xs (i + 3)))) L1 L2 (xs (i + 1)) (xs (i + 3)) (xs (i + 2)) (xs (i + 4)) (xs (i + 5)) (va_cpy CE CE (60 * tn (xs (i + 1)) + tn (xs (i + 2))) (60 * tn (xs (i + 3)) + tn (xs (i + 4))) (tn (xs (i + 5)))) CE) mP mK mU at_ rM rB RP RK RB fb fto mW mN mM mQ MO MU) hE hc (cwV 5 hts gL_law_X5_copy rfl rfl rfl (by decide +kernel) ⟨Nat.le_of_ble_eq_true rfl, Nat.le_of_ble_eq_true rfl⟩) hP hK hD hS [27, 28, 29, 30] (by decide +kernel) rfl (Eq.trans (b := [ma 0, ma 1, ma 2, ma 3]) rfl rfl) rfl rfl rfl rfl hl.1 rfl (Nat.le_of_ble_eq_true rfl) dL_law_1138 hf0 (fun H locs hP hD hS => ?_)
        refine W.eq (g2 := F0 m 1141 ls [.int (s_copy (-9) (SO (tn (xs (i + 1)))) (SO (tn (xs (i + 3)))) L1 L2 (xs (i + 1)) (xs (i + 3)) (xs (i + 2)) (xs (i + 4)) (xs (i + 5))), .int (s_copy (-1) (ln 0) (ln 1) (L 0) (L 1) (xs (i + 1)) (xs (i + 3)) (xs (i + 2)) (xs (i + 4)) (xs (i + 5)))]) rfl ?_
        refine lv_icmp_eq (tgt := 1274) hx hb dL_law_1141 (by decide) (fun _ => ?_) (fun c9 => absurd (a_copy hSj hSj2 hL1c hL2c hj hj2 (xs (i + 2)) (xs (i + 4)) (xs (i + 5))) c9)
        exact hk _ _ _ _ _ _ _ _ _ _ _ _ _ _ _ _ _ _ _ _ _ _ _ _ _ _ _ _ _ _ _ _ _ _ _ _ _ _ _ _ H locs cells slots ⟨hT, hRr, hrl⟩ hP hD hS (by omega) (by omega)
      ·
        refine lv_aload_n hx hb dL_law_1083 rfl (lv_at hl 2 rfl) ?_
        refine ldk (k := 1) C hS dL_law_1084 dL_law_1085 dL_law_1086 dL_law_1087 dL_law_1088 (by decide) (by decide) ?_
        refine ldk (k := 2) C hS dL_law_1089 dL_law_1090 dL_law_1091 dL_law_1092 dL_law_1093 (by decide) (by decide) ?_
        refine ldk (k := 3) C hS dL_law_1094 dL_law_1095 dL_law_1096 dL_law_1097 dL_law_1098 (by decide) (by decide) ?_
        refine ldk (k := 4) C hS dL_law_1099 dL_law_1100 dL_law_1101 dL_law_1102 dL_law_1103 (by decide) (by decide) ?_
        refine ldk (k := 5) C hS dL_law_1104 dL_law_1105 dL_law_1106 dL_law_1107 dL_law_1108 (by decide) (by decide) ?_
        refine wtV (As := [.int (xs (i + 1)), .int (xs (i + 2)), .int (xs (i + 3)), .int (xs (i + 4)), .int (xs (i + 5))]) (rest := []) (ci := 4) (q0 := 0) (W1 := WL G ca ma rr sh sc RA SA R M B tc (f_copy (-1) (ln 0) (ln 2) (L 0) (L 2) (xs (i + 1)) (xs (i + 3)) (xs (i + 2)) (xs (i + 4)) (xs (i + 5))) P K U tM tB P2 K2 U2 W1 N1 M1 K1 ln L (va_up F 2 y3) R M B tc fl SO SL CE mP mK mU at_ rM rB RP RK RB fb fto mW mN mM mQ MO MU) hE h4 (cwV 5 hts gL_law_X4_copy rfl rfl rfl (by decide +kernel) ⟨Nat.le_of_ble_eq_true rfl, Nat.le_of_ble_eq_true rfl⟩) hP hK hD hS [0, 10, 19, 20, 23, 24] (by decide +kernel) rfl (Eq.trans (b := [ca 0, ca 10, sh 0, sc 0, sh 2, sc 2]) rfl rfl) rfl rfl rfl rfl hl.1 rfl (Nat.le_of_ble_eq_true rfl) dL_law_1109 hf0 (fun H locs hP hD hS => ?_)
        refine W.eq (g2 := F0 m 1112 ls [.int (s_copy (-1) (ln 0) (ln 2) (L 0) (L 2) (xs (i + 1)) (xs (i + 3)) (xs (i + 2)) (xs (i + 4)) (xs (i + 5)))]) rfl ?_
        refine lv_aload_n hx hb dL_law_1112 rfl (lv_at hl 1 rfl) ?_
        refine ldk (k := 1) C hS dL_law_1113 dL_law_1114 dL_law_1115 dL_law_1116 dL_law_1117 (by decide) (by decide) ?_
        refine ldk (k := 2) C hS dL_law_1118 dL_law_1119 dL_law_1120 dL_law_1121 dL_law_1122 (by decide) (by decide) ?_
        refine ldk (k := 3) C hS dL_law_1123 dL_law_1124 dL_law_1125 dL_law_1126 dL_law_1127 (by decide) (by decide) ?_
        refine ldk (k := 4) C hS dL_law_1128 dL_law_1129 dL_law_1130 dL_law_1131 dL_law_1132 (by decide) (by decide) ?_
        refine ldk (k := 5) C hS dL_law_1133 dL_law_1134 dL_law_1135 dL_law_1136 dL_law_1137 (by decide) (by decide) ?_
        refine wtV (As := [.int (xs (i + 1)), .int (xs (i + 2)), .int (xs (i + 3)), .int (xs (i + 4)), .int (xs (i + 5))]) (rest := [.int (s_copy (-1) (ln 0) (ln 2) (L 0) (L 2) (xs (i + 1)) (xs (i + 3)) (xs (i + 2)) (xs (i + 4)) (xs (i + 5)))]) (ci := 5) (q0 := 27) (W1 := WL G ca ma rr sh sc RA SA R M B tc (f_copy (-1) (ln 0) (ln 2) (L 0) (L 2) (xs (i + 1)) (xs (i + 3)) (xs (i + 2)) (xs (i + 4)) (xs (i + 5))) P K U tM tB P2 K2 U2 W1 N1 M1 K1 ln L (va_up F 2 y3) R M B tc (f_copy (-1) (ln 0) (ln 2) (L 0) (L 2) (xs (i + 1)) (xs (i + 3)) (xs (i + 2)) (xs (i + 4)) (xs (i + 5))) SO SL (cpG (-9) (SO (tn (xs (i + 1)))) (SO (tn (xs (i + 3)))) L1 L2 (xs (i + 1)) (xs (i + 3)) (xs (i + 2)) (xs (i + 4)) (xs (i + 5)) (va_cpy CE CE (60 * tn (xs (i + 1)) + tn (xs (i + 2))) (60 * tn (xs (i + 3)) + tn (xs (i + 4))) (tn (xs (i + 5)))) CE) mP mK mU at_ rM rB RP RK RB fb fto mW mN mM mQ MO MU) hE hc (cwV 5 hts gL_law_X5_copy rfl rfl rfl (by decide +kernel) ⟨Nat.le_of_ble_eq_true rfl, Nat.le_of_ble_eq_true rfl⟩) hP hK hD hS [27, 28, 29, 30] (by decide +kernel) rfl (Eq.trans (b := [ma 0, ma 1, ma 2, ma 3]) rfl rfl) rfl rfl rfl rfl hl.1 rfl (Nat.le_of_ble_eq_true rfl) dL_law_1138 hf0 (fun H locs hP hD hS => ?_)
        refine W.eq (g2 := F0 m 1141 ls [.int (s_copy (-9) (SO (tn (xs (i + 1)))) (SO (tn (xs (i + 3)))) L1 L2 (xs (i + 1)) (xs (i + 3)) (xs (i + 2)) (xs (i + 4)) (xs (i + 5))), .int (s_copy (-1) (ln 0) (ln 2) (L 0) (L 2) (xs (i + 1)) (xs (i + 3)) (xs (i + 2)) (xs (i + 4)) (xs (i + 5)))]) rfl ?_
        refine lv_icmp_eq (tgt := 1274) hx hb dL_law_1141 (by decide) (fun _ => ?_) (fun c9 => absurd (a_copy hSj hSj2 hL1c hL2c hj hj2 (xs (i + 2)) (xs (i + 4)) (xs (i + 5))) c9)
        exact hk _ _ _ _ _ _ _ _ _ _ _ _ _ _ _ _ _ _ _ _ _ _ _ _ _ _ _ _ _ _ _ _ _ _ _ _ _ _ _ _ H locs cells slots ⟨hT, hRr, hrl⟩ hP hD hS (by omega) (by omega)
      ·
        refine lv_aload_n hx hb dL_law_1083 rfl (lv_at hl 2 rfl) ?_
        refine ldk (k := 1) C hS dL_law_1084 dL_law_1085 dL_law_1086 dL_law_1087 dL_law_1088 (by decide) (by decide) ?_
        refine ldk (k := 2) C hS dL_law_1089 dL_law_1090 dL_law_1091 dL_law_1092 dL_law_1093 (by decide) (by decide) ?_
        refine ldk (k := 3) C hS dL_law_1094 dL_law_1095 dL_law_1096 dL_law_1097 dL_law_1098 (by decide) (by decide) ?_
        refine ldk (k := 4) C hS dL_law_1099 dL_law_1100 dL_law_1101 dL_law_1102 dL_law_1103 (by decide) (by decide) ?_
        refine ldk (k := 5) C hS dL_law_1104 dL_law_1105 dL_law_1106 dL_law_1107 dL_law_1108 (by decide) (by decide) ?_
        refine wtV (As := [.int (xs (i + 1)), .int (xs (i + 2)), .int (xs (i + 3)), .int (xs (i + 4)), .int (xs (i + 5))]) (rest := []) (ci := 4) (q0 := 0) (W1 := WL G ca ma rr sh sc RA SA R M B tc (f_copy (-1) (ln 0) (ln 3) (L 0) (L 3) (xs (i + 1)) (xs (i + 3)) (xs (i + 2)) (xs (i + 4)) (xs (i + 5))) P K U tM tB P2 K2 U2 W1 N1 M1 K1 ln L (va_up F 3 y3) R M B tc fl SO SL CE mP mK mU at_ rM rB RP RK RB fb fto mW mN mM mQ MO MU) hE h4 (cwV 5 hts gL_law_X4_copy rfl rfl rfl (by decide +kernel) ⟨Nat.le_of_ble_eq_true rfl, Nat.le_of_ble_eq_true rfl⟩) hP hK hD hS [0, 10, 19, 20, 25, 26] (by decide +kernel) rfl (Eq.trans (b := [ca 0, ca 10, sh 0, sc 0, sh 3, sc 3]) rfl rfl) rfl rfl rfl rfl hl.1 rfl (Nat.le_of_ble_eq_true rfl) dL_law_1109 hf0 (fun H locs hP hD hS => ?_)
        refine W.eq (g2 := F0 m 1112 ls [.int (s_copy (-1) (ln 0) (ln 3) (L 0) (L 3) (xs (i + 1)) (xs (i + 3)) (xs (i + 2)) (xs (i + 4)) (xs (i + 5)))]) rfl ?_
        refine lv_aload_n hx hb dL_law_1112 rfl (lv_at hl 1 rfl) ?_
        refine ldk (k := 1) C hS dL_law_1113 dL_law_1114 dL_law_1115 dL_law_1116 dL_law_1117 (by decide) (by decide) ?_
        refine ldk (k := 2) C hS dL_law_1118 dL_law_1119 dL_law_1120 dL_law_1121 dL_law_1122 (by decide) (by decide) ?_
        refine ldk (k := 3) C hS dL_law_1123 dL_law_1124 dL_law_1125 dL_law_1126 dL_law_1127 (by decide) (by decide) ?_
        refine ldk (k := 4) C hS dL_law_1128 dL_law_1129 dL_law_1130 dL_law_1131 dL_law_1132 (by decide) (by decide) ?_
        refine ldk (k := 5) C hS dL_law_1133 dL_law_1134 dL_law_1135 dL_law_1136 dL_law_1137 (by decide) (by decide) ?_
        refine wtV (As := [.int (xs (i + 1)), .int (xs (i + 2)), .int (xs (i + 3)), .int (xs (i + 4)), .int (xs (i + 5))]) (rest := [.int (s_copy (-1) (ln 0) (ln 3) (L 0) (L 3) (xs (i + 1)) (xs (i + 3)) (xs (i + 2)) (xs (i + 4)) (xs (i + 5)))]) (ci := 5) (q0 := 27) (W1 := WL G ca ma rr sh sc RA SA R M B tc (f_copy (-1) (ln 0) (ln 3) (L 0) (L 3) (xs (i + 1)) (xs (i + 3)) (xs (i + 2)) (xs (i + 4)) (xs (i + 5))) P K U tM tB P2 K2 U2 W1 N1 M1 K1 ln L (va_up F 3 y3) R M B tc (f_copy (-1) (ln 0) (ln 3) (L 0) (L 3) (xs (i + 1)) (xs (i + 3)) (xs (i + 2)) (xs (i + 4)) (xs (i + 5))) SO SL (cpG (-9) (SO (tn (xs (i + 1)))) (SO (tn (xs (i + 3)))) L1 L2 (xs (i + 1)) (xs (i + 3)) (xs (i + 2)) (xs (i + 4)) (xs (i + 5)) (va_cpy CE CE (60 * tn (xs (i + 1)) + tn (xs (i + 2))) (60 * tn (xs (i + 3)) + tn (xs (i + 4))) (tn (xs (i + 5)))) CE) mP mK mU at_ rM rB RP RK RB fb fto mW mN mM mQ MO MU) hE hc (cwV 5 hts gL_law_X5_copy rfl rfl rfl (by decide +kernel) ⟨Nat.le_of_ble_eq_true rfl, Nat.le_of_ble_eq_true rfl⟩) hP hK hD hS [27, 28, 29, 30] (by decide +kernel) rfl (Eq.trans (b := [ma 0, ma 1, ma 2, ma 3]) rfl rfl) rfl rfl rfl rfl hl.1 rfl (Nat.le_of_ble_eq_true rfl) dL_law_1138 hf0 (fun H locs hP hD hS => ?_)
        refine W.eq (g2 := F0 m 1141 ls [.int (s_copy (-9) (SO (tn (xs (i + 1)))) (SO (tn (xs (i + 3)))) L1 L2 (xs (i + 1)) (xs (i + 3)) (xs (i + 2)) (xs (i + 4)) (xs (i + 5))), .int (s_copy (-1) (ln 0) (ln 3) (L 0) (L 3) (xs (i + 1)) (xs (i + 3)) (xs (i + 2)) (xs (i + 4)) (xs (i + 5)))]) rfl ?_
        refine lv_icmp_eq (tgt := 1274) hx hb dL_law_1141 (by decide) (fun _ => ?_) (fun c9 => absurd (a_copy hSj hSj2 hL1c hL2c hj hj2 (xs (i + 2)) (xs (i + 4)) (xs (i + 5))) c9)
        exact hk _ _ _ _ _ _ _ _ _ _ _ _ _ _ _ _ _ _ _ _ _ _ _ _ _ _ _ _ _ _ _ _ _ _ _ _ _ _ _ _ H locs cells slots ⟨hT, hRr, hrl⟩ hP hD hS (by omega) (by omega)
    ·
      rcases (show j2 = 0 ∨ j2 = 1 ∨ j2 = 2 ∨ j2 = 3 by omega) with rfl | rfl | rfl | rfl
      ·
        refine lv_aload_n hx hb dL_law_1083 rfl (lv_at hl 2 rfl) ?_
        refine ldk (k := 1) C hS dL_law_1084 dL_law_1085 dL_law_1086 dL_law_1087 dL_law_1088 (by decide) (by decide) ?_
        refine ldk (k := 2) C hS dL_law_1089 dL_law_1090 dL_law_1091 dL_law_1092 dL_law_1093 (by decide) (by decide) ?_
        refine ldk (k := 3) C hS dL_law_1094 dL_law_1095 dL_law_1096 dL_law_1097 dL_law_1098 (by decide) (by decide) ?_
        refine ldk (k := 4) C hS dL_law_1099 dL_law_1100 dL_law_1101 dL_law_1102 dL_law_1103 (by decide) (by decide) ?_
        refine ldk (k := 5) C hS dL_law_1104 dL_law_1105 dL_law_1106 dL_law_1107 dL_law_1108 (by decide) (by decide) ?_
        refine wtV (As := [.int (xs (i + 1)), .int (xs (i + 2)), .int (xs (i + 3)), .int (xs (i + 4)), .int (xs (i + 5))]) (rest := []) (ci := 4) (q0 := 0) (W1 := WL G ca ma rr sh sc RA SA R M B tc (f_copy (-1) (ln 1) (ln 0) (L 1) (L 0) (xs (i + 1)) (xs (i + 3)) (xs (i + 2)) (xs (i + 4)) (xs (i + 5))) P K U tM tB P2 K2 U2 W1 N1 M1 K1 ln L (va_up F 0 y3) R M B tc fl SO SL CE mP mK mU at_ rM rB RP RK RB fb fto mW mN mM mQ MO MU) hE h4 (cwV 5 hts gL_law_X4_copy rfl rfl rfl (by decide +kernel) ⟨Nat.le_of_ble_eq_true rfl, Nat.le_of_ble_eq_true rfl⟩) hP hK hD hS [0, 10, 21, 22, 19, 20] (by decide +kernel) rfl (Eq.trans (b := [ca 0, ca 10, sh 1, sc 1, sh 0, sc 0]) rfl rfl) rfl rfl rfl rfl hl.1 rfl (Nat.le_of_ble_eq_true rfl) dL_law_1109 hf0 (fun H locs hP hD hS => ?_)
        refine W.eq (g2 := F0 m 1112 ls [.int (s_copy (-1) (ln 1) (ln 0) (L 1) (L 0) (xs (i + 1)) (xs (i + 3)) (xs (i + 2)) (xs (i + 4)) (xs (i + 5)))]) rfl ?_
        refine lv_aload_n hx hb dL_law_1112 rfl (lv_at hl 1 rfl) ?_
        refine ldk (k := 1) C hS dL_law_1113 dL_law_1114 dL_law_1115 dL_law_1116 dL_law_1117 (by decide) (by decide) ?_
        refine ldk (k := 2) C hS dL_law_1118 dL_law_1119 dL_law_1120 dL_law_1121 dL_law_1122 (by decide) (by decide) ?_
        refine ldk (k := 3) C hS dL_law_1123 dL_law_1124 dL_law_1125 dL_law_1126 dL_law_1127 (by decide) (by decide) ?_
        refine ldk (k := 4) C hS dL_law_1128 dL_law_1129 dL_law_1130 dL_law_1131 dL_law_1132 (by decide) (by decide) ?_
        refine ldk (k := 5) C hS dL_law_1133 dL_law_1134 dL_law_1135 dL_law_1136 dL_law_1137 (by decide) (by decide) ?_
        refine wtV (As := [.int (xs (i + 1)), .int (xs (i + 2)), .int (xs (i + 3)), .int (xs (i + 4)), .int (xs (i + 5))]) (rest := [.int (s_copy (-1) (ln 1) (ln 0) (L 1) (L 0) (xs (i + 1)) (xs (i + 3)) (xs (i + 2)) (xs (i + 4)) (xs (i + 5)))]) (ci := 5) (q0 := 27) (W1 := WL G ca ma rr sh sc RA SA R M B tc (f_copy (-1) (ln 1) (ln 0) (L 1) (L 0) (xs (i + 1)) (xs (i + 3)) (xs (i + 2)) (xs (i + 4)) (xs (i + 5))) P K U tM tB P2 K2 U2 W1 N1 M1 K1 ln L (va_up F 0 y3) R M B tc (f_copy (-1) (ln 1) (ln 0) (L 1) (L 0) (xs (i + 1)) (xs (i + 3)) (xs (i + 2)) (xs (i + 4)) (xs (i + 5))) SO SL (cpG (-9) (SO (tn (xs (i + 1)))) (SO (tn (xs (i + 3)))) L1 L2 (xs (i + 1)) (xs (i + 3)) (xs (i + 2)) (xs (i + 4)) (xs (i + 5)) (va_cpy CE CE (60 * tn (xs (i + 1)) + tn (xs (i + 2))) (60 * tn (xs (i + 3)) + tn (xs (i + 4))) (tn (xs (i + 5)))) CE) mP mK mU at_ rM rB RP RK RB fb fto mW mN mM mQ MO MU) hE hc (cwV 5 hts gL_law_X5_copy rfl rfl rfl (by decide +kernel) ⟨Nat.le_of_ble_eq_true rfl, Nat.le_of_ble_eq_true rfl⟩) hP hK hD hS [27, 28, 29, 30] (by decide +kernel) rfl (Eq.trans (b := [ma 0, ma 1, ma 2, ma 3]) rfl rfl) rfl rfl rfl rfl hl.1 rfl (Nat.le_of_ble_eq_true rfl) dL_law_1138 hf0 (fun H locs hP hD hS => ?_)
        refine W.eq (g2 := F0 m 1141 ls [.int (s_copy (-9) (SO (tn (xs (i + 1)))) (SO (tn (xs (i + 3)))) L1 L2 (xs (i + 1)) (xs (i + 3)) (xs (i + 2)) (xs (i + 4)) (xs (i + 5))), .int (s_copy (-1) (ln 1) (ln 0) (L 1) (L 0) (xs (i + 1)) (xs (i + 3)) (xs (i + 2)) (xs (i + 4)) (xs (i + 5)))]) rfl ?_
        refine lv_icmp_eq (tgt := 1274) hx hb dL_law_1141 (by decide) (fun _ => ?_) (fun c9 => absurd (a_copy hSj hSj2 hL1c hL2c hj hj2 (xs (i + 2)) (xs (i + 4)) (xs (i + 5))) c9)
        exact hk _ _ _ _ _ _ _ _ _ _ _ _ _ _ _ _ _ _ _ _ _ _ _ _ _ _ _ _ _ _ _ _ _ _ _ _ _ _ _ _ H locs cells slots ⟨hT, hRr, hrl⟩ hP hD hS (by omega) (by omega)
      · exact absurd rfl hne
      ·
        refine lv_aload_n hx hb dL_law_1083 rfl (lv_at hl 2 rfl) ?_
        refine ldk (k := 1) C hS dL_law_1084 dL_law_1085 dL_law_1086 dL_law_1087 dL_law_1088 (by decide) (by decide) ?_
        refine ldk (k := 2) C hS dL_law_1089 dL_law_1090 dL_law_1091 dL_law_1092 dL_law_1093 (by decide) (by decide) ?_
        refine ldk (k := 3) C hS dL_law_1094 dL_law_1095 dL_law_1096 dL_law_1097 dL_law_1098 (by decide) (by decide) ?_
        refine ldk (k := 4) C hS dL_law_1099 dL_law_1100 dL_law_1101 dL_law_1102 dL_law_1103 (by decide) (by decide) ?_
        refine ldk (k := 5) C hS dL_law_1104 dL_law_1105 dL_law_1106 dL_law_1107 dL_law_1108 (by decide) (by decide) ?_
        refine wtV (As := [.int (xs (i + 1)), .int (xs (i + 2)), .int (xs (i + 3)), .int (xs (i + 4)), .int (xs (i + 5))]) (rest := []) (ci := 4) (q0 := 0) (W1 := WL G ca ma rr sh sc RA SA R M B tc (f_copy (-1) (ln 1) (ln 2) (L 1) (L 2) (xs (i + 1)) (xs (i + 3)) (xs (i + 2)) (xs (i + 4)) (xs (i + 5))) P K U tM tB P2 K2 U2 W1 N1 M1 K1 ln L (va_up F 2 y3) R M B tc fl SO SL CE mP mK mU at_ rM rB RP RK RB fb fto mW mN mM mQ MO MU) hE h4 (cwV 5 hts gL_law_X4_copy rfl rfl rfl (by decide +kernel) ⟨Nat.le_of_ble_eq_true rfl, Nat.le_of_ble_eq_true rfl⟩) hP hK hD hS [0, 10, 21, 22, 23, 24] (by decide +kernel) rfl (Eq.trans (b := [ca 0, ca 10, sh 1, sc 1, sh 2, sc 2]) rfl rfl) rfl rfl rfl rfl hl.1 rfl (Nat.le_of_ble_eq_true rfl) dL_law_1109 hf0 (fun H locs hP hD hS => ?_)
        refine W.eq (g2 := F0 m 1112 ls [.int (s_copy (-1) (ln 1) (ln 2) (L 1) (L 2) (xs (i + 1)) (xs (i + 3)) (xs (i + 2)) (xs (i + 4)) (xs (i + 5)))]) rfl ?_
        refine lv_aload_n hx hb dL_law_1112 rfl (lv_at hl 1 rfl) ?_
        refine ldk (k := 1) C hS dL_law_1113 dL_law_1114 dL_law_1115 dL_law_1116 dL_law_1117 (by decide) (by decide) ?_
        refine ldk (k := 2) C hS dL_law_1118 dL_law_1119 dL_law_1120 dL_law_1121 dL_law_1122 (by decide) (by decide) ?_
        refine ldk (k := 3) C hS dL_law_1123 dL_law_1124 dL_law_1125 dL_law_1126 dL_law_1127 (by decide) (by decide) ?_
        refine ldk (k := 4) C hS dL_law_1128 dL_law_1129 dL_law_1130 dL_law_1131 dL_law_1132 (by decide) (by decide) ?_
        refine ldk (k := 5) C hS dL_law_1133 dL_law_1134 dL_law_1135 dL_law_1136 dL_law_1137 (by decide) (by decide) ?_
        refine wtV (As := [.int (xs (i + 1)), .int (xs (i + 2)), .int (xs (i + 3)), .int (xs (i + 4)), .int (xs (i + 5))]) (rest := [.int (s_copy (-1) (ln 1) (ln 2) (L 1) (L 2) (xs (i + 1)) (xs (i + 3)) (xs (i + 2)) (xs (i + 4)) (xs (i + 5)))]) (ci := 5) (q0 := 27) (W1 := WL G ca ma rr sh sc RA SA R M B tc (f_copy (-1) (ln 1) (ln 2) (L 1) (L 2) (xs (i + 1)) (xs (i + 3)) (xs (i + 2)) (xs (i + 4)) (xs (i + 5))) P K U tM tB P2 K2 U2 W1 N1 M1 K1 ln L (va_up F 2 y3) R M B tc (f_copy (-1) (ln 1) (ln 2) (L 1) (L 2) (xs (i + 1)) (xs (i + 3)) (xs (i + 2)) (xs (i + 4)) (xs (i + 5))) SO SL (cpG (-9) (SO (tn (xs (i + 1)))) (SO (tn (xs (i + 3)))) L1 L2 (xs (i + 1)) (xs (i + 3)) (xs (i + 2)) (xs (i + 4)) (xs (i + 5)) (va_cpy CE CE (60 * tn (xs (i + 1)) + tn (xs (i + 2))) (60 * tn (xs (i + 3)) + tn (xs (i + 4))) (tn (xs (i + 5)))) CE) mP mK mU at_ rM rB RP RK RB fb fto mW mN mM mQ MO MU) hE hc (cwV 5 hts gL_law_X5_copy rfl rfl rfl (by decide +kernel) ⟨Nat.le_of_ble_eq_true rfl, Nat.le_of_ble_eq_true rfl⟩) hP hK hD hS [27, 28, 29, 30] (by decide +kernel) rfl (Eq.trans (b := [ma 0, ma 1, ma 2, ma 3]) rfl rfl) rfl rfl rfl rfl hl.1 rfl (Nat.le_of_ble_eq_true rfl) dL_law_1138 hf0 (fun H locs hP hD hS => ?_)
        refine W.eq (g2 := F0 m 1141 ls [.int (s_copy (-9) (SO (tn (xs (i + 1)))) (SO (tn (xs (i + 3)))) L1 L2 (xs (i + 1)) (xs (i + 3)) (xs (i + 2)) (xs (i + 4)) (xs (i + 5))), .int (s_copy (-1) (ln 1) (ln 2) (L 1) (L 2) (xs (i + 1)) (xs (i + 3)) (xs (i + 2)) (xs (i + 4)) (xs (i + 5)))]) rfl ?_
        refine lv_icmp_eq (tgt := 1274) hx hb dL_law_1141 (by decide) (fun _ => ?_) (fun c9 => absurd (a_copy hSj hSj2 hL1c hL2c hj hj2 (xs (i + 2)) (xs (i + 4)) (xs (i + 5))) c9)
        exact hk _ _ _ _ _ _ _ _ _ _ _ _ _ _ _ _ _ _ _ _ _ _ _ _ _ _ _ _ _ _ _ _ _ _ _ _ _ _ _ _ H locs cells slots ⟨hT, hRr, hrl⟩ hP hD hS (by omega) (by omega)
      ·
        refine lv_aload_n hx hb dL_law_1083 rfl (lv_at hl 2 rfl) ?_
        refine ldk (k := 1) C hS dL_law_1084 dL_law_1085 dL_law_1086 dL_law_1087 dL_law_1088 (by decide) (by decide) ?_
        refine ldk (k := 2) C hS dL_law_1089 dL_law_1090 dL_law_1091 dL_law_1092 dL_law_1093 (by decide) (by decide) ?_
        refine ldk (k := 3) C hS dL_law_1094 dL_law_1095 dL_law_1096 dL_law_1097 dL_law_1098 (by decide) (by decide) ?_
        refine ldk (k := 4) C hS dL_law_1099 dL_law_1100 dL_law_1101 dL_law_1102 dL_law_1103 (by decide) (by decide) ?_
        refine ldk (k := 5) C hS dL_law_1104 dL_law_1105 dL_law_1106 dL_law_1107 dL_law_1108 (by decide) (by decide) ?_
        refine wtV (As := [.int (xs (i + 1)), .int (xs (i + 2)), .int (xs (i + 3)), .int (xs (i + 4)), .int (xs (i + 5))]) (rest := []) (ci := 4) (q0 := 0) (W1 := WL G ca ma rr sh sc RA SA R M B tc (f_copy (-1) (ln 1) (ln 3) (L 1) (L 3) (xs (i + 1)) (xs (i + 3)) (xs (i + 2)) (xs (i + 4)) (xs (i + 5))) P K U tM tB P2 K2 U2 W1 N1 M1 K1 ln L (va_up F 3 y3) R M B tc fl SO SL CE mP mK mU at_ rM rB RP RK RB fb fto mW mN mM mQ MO MU) hE h4 (cwV 5 hts gL_law_X4_copy rfl rfl rfl (by decide +kernel) ⟨Nat.le_of_ble_eq_true rfl, Nat.le_of_ble_eq_true rfl⟩) hP hK hD hS [0, 10, 21, 22, 25, 26] (by decide +kernel) rfl (Eq.trans (b := [ca 0, ca 10, sh 1, sc 1, sh 3, sc 3]) rfl rfl) rfl rfl rfl rfl hl.1 rfl (Nat.le_of_ble_eq_true rfl) dL_law_1109 hf0 (fun H locs hP hD hS => ?_)
        refine W.eq (g2 := F0 m 1112 ls [.int (s_copy (-1) (ln 1) (ln 3) (L 1) (L 3) (xs (i + 1)) (xs (i + 3)) (xs (i + 2)) (xs (i + 4)) (xs (i + 5)))]) rfl ?_
        refine lv_aload_n hx hb dL_law_1112 rfl (lv_at hl 1 rfl) ?_
        refine ldk (k := 1) C hS dL_law_1113 dL_law_1114 dL_law_1115 dL_law_1116 dL_law_1117 (by decide) (by decide) ?_
        refine ldk (k := 2) C hS dL_law_1118 dL_law_1119 dL_law_1120 dL_law_1121 dL_law_1122 (by decide) (by decide) ?_
        refine ldk (k := 3) C hS dL_law_1123 dL_law_1124 dL_law_1125 dL_law_1126 dL_law_1127 (by decide) (by decide) ?_
        refine ldk (k := 4) C hS dL_law_1128 dL_law_1129 dL_law_1130 dL_law_1131 dL_law_1132 (by decide) (by decide) ?_
        refine ldk (k := 5) C hS dL_law_1133 dL_law_1134 dL_law_1135 dL_law_1136 dL_law_1137 (by decide) (by decide) ?_
        refine wtV (As := [.int (xs (i + 1)), .int (xs (i + 2)), .int (xs (i + 3)), .int (xs (i + 4)), .int (xs (i + 5))]) (rest := [.int (s_copy (-1) (ln 1) (ln 3) (L 1) (L 3) (xs (i + 1)) (xs (i + 3)) (xs (i + 2)) (xs (i + 4)) (xs (i + 5)))]) (ci := 5) (q0 := 27) (W1 := WL G ca ma rr sh sc RA SA R M B tc (f_copy (-1) (ln 1) (ln 3) (L 1) (L 3) (xs (i + 1)) (xs (i + 3)) (xs (i + 2)) (xs (i + 4)) (xs (i + 5))) P K U tM tB P2 K2 U2 W1 N1 M1 K1 ln L (va_up F 3 y3) R M B tc (f_copy (-1) (ln 1) (ln 3) (L 1) (L 3) (xs (i + 1)) (xs (i + 3)) (xs (i + 2)) (xs (i + 4)) (xs (i + 5))) SO SL (cpG (-9) (SO (tn (xs (i + 1)))) (SO (tn (xs (i + 3)))) L1 L2 (xs (i + 1)) (xs (i + 3)) (xs (i + 2)) (xs (i + 4)) (xs (i + 5)) (va_cpy CE CE (60 * tn (xs (i + 1)) + tn (xs (i + 2))) (60 * tn (xs (i + 3)) + tn (xs (i + 4))) (tn (xs (i + 5)))) CE) mP mK mU at_ rM rB RP RK RB fb fto mW mN mM mQ MO MU) hE hc (cwV 5 hts gL_law_X5_copy rfl rfl rfl (by decide +kernel) ⟨Nat.le_of_ble_eq_true rfl, Nat.le_of_ble_eq_true rfl⟩) hP hK hD hS [27, 28, 29, 30] (by decide +kernel) rfl (Eq.trans (b := [ma 0, ma 1, ma 2, ma 3]) rfl rfl) rfl rfl rfl rfl hl.1 rfl (Nat.le_of_ble_eq_true rfl) dL_law_1138 hf0 (fun H locs hP hD hS => ?_)
        refine W.eq (g2 := F0 m 1141 ls [.int (s_copy (-9) (SO (tn (xs (i + 1)))) (SO (tn (xs (i + 3)))) L1 L2 (xs (i + 1)) (xs (i + 3)) (xs (i + 2)) (xs (i + 4)) (xs (i + 5))), .int (s_copy (-1) (ln 1) (ln 3) (L 1) (L 3) (xs (i + 1)) (xs (i + 3)) (xs (i + 2)) (xs (i + 4)) (xs (i + 5)))]) rfl ?_
        refine lv_icmp_eq (tgt := 1274) hx hb dL_law_1141 (by decide) (fun _ => ?_) (fun c9 => absurd (a_copy hSj hSj2 hL1c hL2c hj hj2 (xs (i + 2)) (xs (i + 4)) (xs (i + 5))) c9)
        exact hk _ _ _ _ _ _ _ _ _ _ _ _ _ _ _ _ _ _ _ _ _ _ _ _ _ _ _ _ _ _ _ _ _ _ _ _ _ _ _ _ H locs cells slots ⟨hT, hRr, hrl⟩ hP hD hS (by omega) (by omega)
    ·
      rcases (show j2 = 0 ∨ j2 = 1 ∨ j2 = 2 ∨ j2 = 3 by omega) with rfl | rfl | rfl | rfl
      ·
        refine lv_aload_n hx hb dL_law_1083 rfl (lv_at hl 2 rfl) ?_
        refine ldk (k := 1) C hS dL_law_1084 dL_law_1085 dL_law_1086 dL_law_1087 dL_law_1088 (by decide) (by decide) ?_
        refine ldk (k := 2) C hS dL_law_1089 dL_law_1090 dL_law_1091 dL_law_1092 dL_law_1093 (by decide) (by decide) ?_
        refine ldk (k := 3) C hS dL_law_1094 dL_law_1095 dL_law_1096 dL_law_1097 dL_law_1098 (by decide) (by decide) ?_
        refine ldk (k := 4) C hS dL_law_1099 dL_law_1100 dL_law_1101 dL_law_1102 dL_law_1103 (by decide) (by decide) ?_
        refine ldk (k := 5) C hS dL_law_1104 dL_law_1105 dL_law_1106 dL_law_1107 dL_law_1108 (by decide) (by decide) ?_
        refine wtV (As := [.int (xs (i + 1)), .int (xs (i + 2)), .int (xs (i + 3)), .int (xs (i + 4)), .int (xs (i + 5))]) (rest := []) (ci := 4) (q0 := 0) (W1 := WL G ca ma rr sh sc RA SA R M B tc (f_copy (-1) (ln 2) (ln 0) (L 2) (L 0) (xs (i + 1)) (xs (i + 3)) (xs (i + 2)) (xs (i + 4)) (xs (i + 5))) P K U tM tB P2 K2 U2 W1 N1 M1 K1 ln L (va_up F 0 y3) R M B tc fl SO SL CE mP mK mU at_ rM rB RP RK RB fb fto mW mN mM mQ MO MU) hE h4 (cwV 5 hts gL_law_X4_copy rfl rfl rfl (by decide +kernel) ⟨Nat.le_of_ble_eq_true rfl, Nat.le_of_ble_eq_true rfl⟩) hP hK hD hS [0, 10, 23, 24, 19, 20] (by decide +kernel) rfl (Eq.trans (b := [ca 0, ca 10, sh 2, sc 2, sh 0, sc 0]) rfl rfl) rfl rfl rfl rfl hl.1 rfl (Nat.le_of_ble_eq_true rfl) dL_law_1109 hf0 (fun H locs hP hD hS => ?_)
        refine W.eq (g2 := F0 m 1112 ls [.int (s_copy (-1) (ln 2) (ln 0) (L 2) (L 0) (xs (i + 1)) (xs (i + 3)) (xs (i + 2)) (xs (i + 4)) (xs (i + 5)))]) rfl ?_
        refine lv_aload_n hx hb dL_law_1112 rfl (lv_at hl 1 rfl) ?_
        refine ldk (k := 1) C hS dL_law_1113 dL_law_1114 dL_law_1115 dL_law_1116 dL_law_1117 (by decide) (by decide) ?_
        refine ldk (k := 2) C hS dL_law_1118 dL_law_1119 dL_law_1120 dL_law_1121 dL_law_1122 (by decide) (by decide) ?_
        refine ldk (k := 3) C hS dL_law_1123 dL_law_1124 dL_law_1125 dL_law_1126 dL_law_1127 (by decide) (by decide) ?_
        refine ldk (k := 4) C hS dL_law_1128 dL_law_1129 dL_law_1130 dL_law_1131 dL_law_1132 (by decide) (by decide) ?_
        refine ldk (k := 5) C hS dL_law_1133 dL_law_1134 dL_law_1135 dL_law_1136 dL_law_1137 (by decide) (by decide) ?_
        refine wtV (As := [.int (xs (i + 1)), .int (xs (i + 2)), .int (xs (i + 3)), .int (xs (i + 4)), .int (xs (i + 5))]) (rest := [.int (s_copy (-1) (ln 2) (ln 0) (L 2) (L 0) (xs (i + 1)) (xs (i + 3)) (xs (i + 2)) (xs (i + 4)) (xs (i + 5)))]) (ci := 5) (q0 := 27) (W1 := WL G ca ma rr sh sc RA SA R M B tc (f_copy (-1) (ln 2) (ln 0) (L 2) (L 0) (xs (i + 1)) (xs (i + 3)) (xs (i + 2)) (xs (i + 4)) (xs (i + 5))) P K U tM tB P2 K2 U2 W1 N1 M1 K1 ln L (va_up F 0 y3) R M B tc (f_copy (-1) (ln 2) (ln 0) (L 2) (L 0) (xs (i + 1)) (xs (i + 3)) (xs (i + 2)) (xs (i + 4)) (xs (i + 5))) SO SL (cpG (-9) (SO (tn (xs (i + 1)))) (SO (tn (xs (i + 3)))) L1 L2 (xs (i + 1)) (xs (i + 3)) (xs (i + 2)) (xs (i + 4)) (xs (i + 5)) (va_cpy CE CE (60 * tn (xs (i + 1)) + tn (xs (i + 2))) (60 * tn (xs (i + 3)) + tn (xs (i + 4))) (tn (xs (i + 5)))) CE) mP mK mU at_ rM rB RP RK RB fb fto mW mN mM mQ MO MU) hE hc (cwV 5 hts gL_law_X5_copy rfl rfl rfl (by decide +kernel) ⟨Nat.le_of_ble_eq_true rfl, Nat.le_of_ble_eq_true rfl⟩) hP hK hD hS [27, 28, 29, 30] (by decide +kernel) rfl (Eq.trans (b := [ma 0, ma 1, ma 2, ma 3]) rfl rfl) rfl rfl rfl rfl hl.1 rfl (Nat.le_of_ble_eq_true rfl) dL_law_1138 hf0 (fun H locs hP hD hS => ?_)
        refine W.eq (g2 := F0 m 1141 ls [.int (s_copy (-9) (SO (tn (xs (i + 1)))) (SO (tn (xs (i + 3)))) L1 L2 (xs (i + 1)) (xs (i + 3)) (xs (i + 2)) (xs (i + 4)) (xs (i + 5))), .int (s_copy (-1) (ln 2) (ln 0) (L 2) (L 0) (xs (i + 1)) (xs (i + 3)) (xs (i + 2)) (xs (i + 4)) (xs (i + 5)))]) rfl ?_
        refine lv_icmp_eq (tgt := 1274) hx hb dL_law_1141 (by decide) (fun _ => ?_) (fun c9 => absurd (a_copy hSj hSj2 hL1c hL2c hj hj2 (xs (i + 2)) (xs (i + 4)) (xs (i + 5))) c9)
        exact hk _ _ _ _ _ _ _ _ _ _ _ _ _ _ _ _ _ _ _ _ _ _ _ _ _ _ _ _ _ _ _ _ _ _ _ _ _ _ _ _ H locs cells slots ⟨hT, hRr, hrl⟩ hP hD hS (by omega) (by omega)
      ·
        refine lv_aload_n hx hb dL_law_1083 rfl (lv_at hl 2 rfl) ?_
        refine ldk (k := 1) C hS dL_law_1084 dL_law_1085 dL_law_1086 dL_law_1087 dL_law_1088 (by decide) (by decide) ?_
        refine ldk (k := 2) C hS dL_law_1089 dL_law_1090 dL_law_1091 dL_law_1092 dL_law_1093 (by decide) (by decide) ?_
        refine ldk (k := 3) C hS dL_law_1094 dL_law_1095 dL_law_1096 dL_law_1097 dL_law_1098 (by decide) (by decide) ?_
        refine ldk (k := 4) C hS dL_law_1099 dL_law_1100 dL_law_1101 dL_law_1102 dL_law_1103 (by decide) (by decide) ?_
        refine ldk (k := 5) C hS dL_law_1104 dL_law_1105 dL_law_1106 dL_law_1107 dL_law_1108 (by decide) (by decide) ?_
        refine wtV (As := [.int (xs (i + 1)), .int (xs (i + 2)), .int (xs (i + 3)), .int (xs (i + 4)), .int (xs (i + 5))]) (rest := []) (ci := 4) (q0 := 0) (W1 := WL G ca ma rr sh sc RA SA R M B tc (f_copy (-1) (ln 2) (ln 1) (L 2) (L 1) (xs (i + 1)) (xs (i + 3)) (xs (i + 2)) (xs (i + 4)) (xs (i + 5))) P K U tM tB P2 K2 U2 W1 N1 M1 K1 ln L (va_up F 1 y3) R M B tc fl SO SL CE mP mK mU at_ rM rB RP RK RB fb fto mW mN mM mQ MO MU) hE h4 (cwV 5 hts gL_law_X4_copy rfl rfl rfl (by decide +kernel) ⟨Nat.le_of_ble_eq_true rfl, Nat.le_of_ble_eq_true rfl⟩) hP hK hD hS [0, 10, 23, 24, 21, 22] (by decide +kernel) rfl (Eq.trans (b := [ca 0, ca 10, sh 2, sc 2, sh 1, sc 1]) rfl rfl) rfl rfl rfl rfl hl.1 rfl (Nat.le_of_ble_eq_true rfl) dL_law_1109 hf0 (fun H locs hP hD hS => ?_)
        refine W.eq (g2 := F0 m 1112 ls [.int (s_copy (-1) (ln 2) (ln 1) (L 2) (L 1) (xs (i + 1)) (xs (i + 3)) (xs (i + 2)) (xs (i + 4)) (xs (i + 5)))]) rfl ?_
        refine lv_aload_n hx hb dL_law_1112 rfl (lv_at hl 1 rfl) ?_
        refine ldk (k := 1) C hS dL_law_1113 dL_law_1114 dL_law_1115 dL_law_1116 dL_law_1117 (by decide) (by decide) ?_
        refine ldk (k := 2) C hS dL_law_1118 dL_law_1119 dL_law_1120 dL_law_1121 dL_law_1122 (by decide) (by decide) ?_
        refine ldk (k := 3) C hS dL_law_1123 dL_law_1124 dL_law_1125 dL_law_1126 dL_law_1127 (by decide) (by decide) ?_
        refine ldk (k := 4) C hS dL_law_1128 dL_law_1129 dL_law_1130 dL_law_1131 dL_law_1132 (by decide) (by decide) ?_
        refine ldk (k := 5) C hS dL_law_1133 dL_law_1134 dL_law_1135 dL_law_1136 dL_law_1137 (by decide) (by decide) ?_
        refine wtV (As := [.int (xs (i + 1)), .int (xs (i + 2)), .int (xs (i + 3)), .int (xs (i + 4)), .int (xs (i + 5))]) (rest := [.int (s_copy (-1) (ln 2) (ln 1) (L 2) (L 1) (xs (i + 1)) (xs (i + 3)) (xs (i + 2)) (xs (i + 4)) (xs (i + 5)))]) (ci := 5) (q0 := 27) (W1 := WL G ca ma rr sh sc RA SA R M B tc (f_copy (-1) (ln 2) (ln 1) (L 2) (L 1) (xs (i + 1)) (xs (i + 3)) (xs (i + 2)) (xs (i + 4)) (xs (i + 5))) P K U tM tB P2 K2 U2 W1 N1 M1 K1 ln L (va_up F 1 y3) R M B tc (f_copy (-1) (ln 2) (ln 1) (L 2) (L 1) (xs (i + 1)) (xs (i + 3)) (xs (i + 2)) (xs (i + 4)) (xs (i + 5))) SO SL (cpG (-9) (SO (tn (xs (i + 1)))) (SO (tn (xs (i + 3)))) L1 L2 (xs (i + 1)) (xs (i + 3)) (xs (i + 2)) (xs (i + 4)) (xs (i + 5)) (va_cpy CE CE (60 * tn (xs (i + 1)) + tn (xs (i + 2))) (60 * tn (xs (i + 3)) + tn (xs (i + 4))) (tn (xs (i + 5)))) CE) mP mK mU at_ rM rB RP RK RB fb fto mW mN mM mQ MO MU) hE hc (cwV 5 hts gL_law_X5_copy rfl rfl rfl (by decide +kernel) ⟨Nat.le_of_ble_eq_true rfl, Nat.le_of_ble_eq_true rfl⟩) hP hK hD hS [27, 28, 29, 30] (by decide +kernel) rfl (Eq.trans (b := [ma 0, ma 1, ma 2, ma 3]) rfl rfl) rfl rfl rfl rfl hl.1 rfl (Nat.le_of_ble_eq_true rfl) dL_law_1138 hf0 (fun H locs hP hD hS => ?_)
        refine W.eq (g2 := F0 m 1141 ls [.int (s_copy (-9) (SO (tn (xs (i + 1)))) (SO (tn (xs (i + 3)))) L1 L2 (xs (i + 1)) (xs (i + 3)) (xs (i + 2)) (xs (i + 4)) (xs (i + 5))), .int (s_copy (-1) (ln 2) (ln 1) (L 2) (L 1) (xs (i + 1)) (xs (i + 3)) (xs (i + 2)) (xs (i + 4)) (xs (i + 5)))]) rfl ?_
        refine lv_icmp_eq (tgt := 1274) hx hb dL_law_1141 (by decide) (fun _ => ?_) (fun c9 => absurd (a_copy hSj hSj2 hL1c hL2c hj hj2 (xs (i + 2)) (xs (i + 4)) (xs (i + 5))) c9)
        exact hk _ _ _ _ _ _ _ _ _ _ _ _ _ _ _ _ _ _ _ _ _ _ _ _ _ _ _ _ _ _ _ _ _ _ _ _ _ _ _ _ H locs cells slots ⟨hT, hRr, hrl⟩ hP hD hS (by omega) (by omega)
      · exact absurd rfl hne
      ·
        refine lv_aload_n hx hb dL_law_1083 rfl (lv_at hl 2 rfl) ?_
        refine ldk (k := 1) C hS dL_law_1084 dL_law_1085 dL_law_1086 dL_law_1087 dL_law_1088 (by decide) (by decide) ?_
        refine ldk (k := 2) C hS dL_law_1089 dL_law_1090 dL_law_1091 dL_law_1092 dL_law_1093 (by decide) (by decide) ?_
        refine ldk (k := 3) C hS dL_law_1094 dL_law_1095 dL_law_1096 dL_law_1097 dL_law_1098 (by decide) (by decide) ?_
        refine ldk (k := 4) C hS dL_law_1099 dL_law_1100 dL_law_1101 dL_law_1102 dL_law_1103 (by decide) (by decide) ?_
        refine ldk (k := 5) C hS dL_law_1104 dL_law_1105 dL_law_1106 dL_law_1107 dL_law_1108 (by decide) (by decide) ?_
        refine wtV (As := [.int (xs (i + 1)), .int (xs (i + 2)), .int (xs (i + 3)), .int (xs (i + 4)), .int (xs (i + 5))]) (rest := []) (ci := 4) (q0 := 0) (W1 := WL G ca ma rr sh sc RA SA R M B tc (f_copy (-1) (ln 2) (ln 3) (L 2) (L 3) (xs (i + 1)) (xs (i + 3)) (xs (i + 2)) (xs (i + 4)) (xs (i + 5))) P K U tM tB P2 K2 U2 W1 N1 M1 K1 ln L (va_up F 3 y3) R M B tc fl SO SL CE mP mK mU at_ rM rB RP RK RB fb fto mW mN mM mQ MO MU) hE h4 (cwV 5 hts gL_law_X4_copy rfl rfl rfl (by decide +kernel) ⟨Nat.le_of_ble_eq_true rfl, Nat.le_of_ble_eq_true rfl⟩) hP hK hD hS [0, 10, 23, 24, 25, 26] (by decide +kernel) rfl (Eq.trans (b := [ca 0, ca 10, sh 2, sc 2, sh 3, sc 3]) rfl rfl) rfl rfl rfl rfl hl.1 rfl (Nat.le_of_ble_eq_true rfl) dL_law_1109 hf0 (fun H locs hP hD hS => ?_)
        refine W.eq (g2 := F0 m 1112 ls [.int (s_copy (-1) (ln 2) (ln 3) (L 2) (L 3) (xs (i + 1)) (xs (i + 3)) (xs (i + 2)) (xs (i + 4)) (xs (i + 5)))]) rfl ?_
        refine lv_aload_n hx hb dL_law_1112 rfl (lv_at hl 1 rfl) ?_
        refine ldk (k := 1) C hS dL_law_1113 dL_law_1114 dL_law_1115 dL_law_1116 dL_law_1117 (by decide) (by decide) ?_
        refine ldk (k := 2) C hS dL_law_1118 dL_law_1119 dL_law_1120 dL_law_1121 dL_law_1122 (by decide) (by decide) ?_
        refine ldk (k := 3) C hS dL_law_1123 dL_law_1124 dL_law_1125 dL_law_1126 dL_law_1127 (by decide) (by decide) ?_
        refine ldk (k := 4) C hS dL_law_1128 dL_law_1129 dL_law_1130 dL_law_1131 dL_law_1132 (by decide) (by decide) ?_
        refine ldk (k := 5) C hS dL_law_1133 dL_law_1134 dL_law_1135 dL_law_1136 dL_law_1137 (by decide) (by decide) ?_
        refine wtV (As := [.int (xs (i + 1)), .int (xs (i + 2)), .int (xs (i + 3)), .int (xs (i + 4)), .int (xs (i + 5))]) (rest := [.int (s_copy (-1) (ln 2) (ln 3) (L 2) (L 3) (xs (i + 1)) (xs (i + 3)) (xs (i + 2)) (xs (i + 4)) (xs (i + 5)))]) (ci := 5) (q0 := 27) (W1 := WL G ca ma rr sh sc RA SA R M B tc (f_copy (-1) (ln 2) (ln 3) (L 2) (L 3) (xs (i + 1)) (xs (i + 3)) (xs (i + 2)) (xs (i + 4)) (xs (i + 5))) P K U tM tB P2 K2 U2 W1 N1 M1 K1 ln L (va_up F 3 y3) R M B tc (f_copy (-1) (ln 2) (ln 3) (L 2) (L 3) (xs (i + 1)) (xs (i + 3)) (xs (i + 2)) (xs (i + 4)) (xs (i + 5))) SO SL (cpG (-9) (SO (tn (xs (i + 1)))) (SO (tn (xs (i + 3)))) L1 L2 (xs (i + 1)) (xs (i + 3)) (xs (i + 2)) (xs (i + 4)) (xs (i + 5)) (va_cpy CE CE (60 * tn (xs (i + 1)) + tn (xs (i + 2))) (60 * tn (xs (i + 3)) + tn (xs (i + 4))) (tn (xs (i + 5)))) CE) mP mK mU at_ rM rB RP RK RB fb fto mW mN mM mQ MO MU) hE hc (cwV 5 hts gL_law_X5_copy rfl rfl rfl (by decide +kernel) ⟨Nat.le_of_ble_eq_true rfl, Nat.le_of_ble_eq_true rfl⟩) hP hK hD hS [27, 28, 29, 30] (by decide +kernel) rfl (Eq.trans (b := [ma 0, ma 1, ma 2, ma 3]) rfl rfl) rfl rfl rfl rfl hl.1 rfl (Nat.le_of_ble_eq_true rfl) dL_law_1138 hf0 (fun H locs hP hD hS => ?_)
        refine W.eq (g2 := F0 m 1141 ls [.int (s_copy (-9) (SO (tn (xs (i + 1)))) (SO (tn (xs (i + 3)))) L1 L2 (xs (i + 1)) (xs (i + 3)) (xs (i + 2)) (xs (i + 4)) (xs (i + 5))), .int (s_copy (-1) (ln 2) (ln 3) (L 2) (L 3) (xs (i + 1)) (xs (i + 3)) (xs (i + 2)) (xs (i + 4)) (xs (i + 5)))]) rfl ?_
        refine lv_icmp_eq (tgt := 1274) hx hb dL_law_1141 (by decide) (fun _ => ?_) (fun c9 => absurd (a_copy hSj hSj2 hL1c hL2c hj hj2 (xs (i + 2)) (xs (i + 4)) (xs (i + 5))) c9)
        exact hk _ _ _ _ _ _ _ _ _ _ _ _ _ _ _ _ _ _ _ _ _ _ _ _ _ _ _ _ _ _ _ _ _ _ _ _ _ _ _ _ H locs cells slots ⟨hT, hRr, hrl⟩ hP hD hS (by omega) (by omega)
    ·
      rcases (show j2 = 0 ∨ j2 = 1 ∨ j2 = 2 ∨ j2 = 3 by omega) with rfl | rfl | rfl | rfl
      ·
        refine lv_aload_n hx hb dL_law_1083 rfl (lv_at hl 2 rfl) ?_
        refine ldk (k := 1) C hS dL_law_1084 dL_law_1085 dL_law_1086 dL_law_1087 dL_law_1088 (by decide) (by decide) ?_
        refine ldk (k := 2) C hS dL_law_1089 dL_law_1090 dL_law_1091 dL_law_1092 dL_law_1093 (by decide) (by decide) ?_
        refine ldk (k := 3) C hS dL_law_1094 dL_law_1095 dL_law_1096 dL_law_1097 dL_law_1098 (by decide) (by decide) ?_
        refine ldk (k := 4) C hS dL_law_1099 dL_law_1100 dL_law_1101 dL_law_1102 dL_law_1103 (by decide) (by decide) ?_
        refine ldk (k := 5) C hS dL_law_1104 dL_law_1105 dL_law_1106 dL_law_1107 dL_law_1108 (by decide) (by decide) ?_
        refine wtV (As := [.int (xs (i + 1)), .int (xs (i + 2)), .int (xs (i + 3)), .int (xs (i + 4)), .int (xs (i + 5))]) (rest := []) (ci := 4) (q0 := 0) (W1 := WL G ca ma rr sh sc RA SA R M B tc (f_copy (-1) (ln 3) (ln 0) (L 3) (L 0) (xs (i + 1)) (xs (i + 3)) (xs (i + 2)) (xs (i + 4)) (xs (i + 5))) P K U tM tB P2 K2 U2 W1 N1 M1 K1 ln L (va_up F 0 y3) R M B tc fl SO SL CE mP mK mU at_ rM rB RP RK RB fb fto mW mN mM mQ MO MU) hE h4 (cwV 5 hts gL_law_X4_copy rfl rfl rfl (by decide +kernel) ⟨Nat.le_of_ble_eq_true rfl, Nat.le_of_ble_eq_true rfl⟩) hP hK hD hS [0, 10, 25, 26, 19, 20] (by decide +kernel) rfl (Eq.trans (b := [ca 0, ca 10, sh 3, sc 3, sh 0, sc 0]) rfl rfl) rfl rfl rfl rfl hl.1 rfl (Nat.le_of_ble_eq_true rfl) dL_law_1109 hf0 (fun H locs hP hD hS => ?_)
        refine W.eq (g2 := F0 m 1112 ls [.int (s_copy (-1) (ln 3) (ln 0) (L 3) (L 0) (xs (i + 1)) (xs (i + 3)) (xs (i + 2)) (xs (i + 4)) (xs (i + 5)))]) rfl ?_
        refine lv_aload_n hx hb dL_law_1112 rfl (lv_at hl 1 rfl) ?_
        refine ldk (k := 1) C hS dL_law_1113 dL_law_1114 dL_law_1115 dL_law_1116 dL_law_1117 (by decide) (by decide) ?_
        refine ldk (k := 2) C hS dL_law_1118 dL_law_1119 dL_law_1120 dL_law_1121 dL_law_1122 (by decide) (by decide) ?_
        refine ldk (k := 3) C hS dL_law_1123 dL_law_1124 dL_law_1125 dL_law_1126 dL_law_1127 (by decide) (by decide) ?_
        refine ldk (k := 4) C hS dL_law_1128 dL_law_1129 dL_law_1130 dL_law_1131 dL_law_1132 (by decide) (by decide) ?_
        refine ldk (k := 5) C hS dL_law_1133 dL_law_1134 dL_law_1135 dL_law_1136 dL_law_1137 (by decide) (by decide) ?_
        refine wtV (As := [.int (xs (i + 1)), .int (xs (i + 2)), .int (xs (i + 3)), .int (xs (i + 4)), .int (xs (i + 5))]) (rest := [.int (s_copy (-1) (ln 3) (ln 0) (L 3) (L 0) (xs (i + 1)) (xs (i + 3)) (xs (i + 2)) (xs (i + 4)) (xs (i + 5)))]) (ci := 5) (q0 := 27) (W1 := WL G ca ma rr sh sc RA SA R M B tc (f_copy (-1) (ln 3) (ln 0) (L 3) (L 0) (xs (i + 1)) (xs (i + 3)) (xs (i + 2)) (xs (i + 4)) (xs (i + 5))) P K U tM tB P2 K2 U2 W1 N1 M1 K1 ln L (va_up F 0 y3) R M B tc (f_copy (-1) (ln 3) (ln 0) (L 3) (L 0) (xs (i + 1)) (xs (i + 3)) (xs (i + 2)) (xs (i + 4)) (xs (i + 5))) SO SL (cpG (-9) (SO (tn (xs (i + 1)))) (SO (tn (xs (i + 3)))) L1 L2 (xs (i + 1)) (xs (i + 3)) (xs (i + 2)) (xs (i + 4)) (xs (i + 5)) (va_cpy CE CE (60 * tn (xs (i + 1)) + tn (xs (i + 2))) (60 * tn (xs (i + 3)) + tn (xs (i + 4))) (tn (xs (i + 5)))) CE) mP mK mU at_ rM rB RP RK RB fb fto mW mN mM mQ MO MU) hE hc (cwV 5 hts gL_law_X5_copy rfl rfl rfl (by decide +kernel) ⟨Nat.le_of_ble_eq_true rfl, Nat.le_of_ble_eq_true rfl⟩) hP hK hD hS [27, 28, 29, 30] (by decide +kernel) rfl (Eq.trans (b := [ma 0, ma 1, ma 2, ma 3]) rfl rfl) rfl rfl rfl rfl hl.1 rfl (Nat.le_of_ble_eq_true rfl) dL_law_1138 hf0 (fun H locs hP hD hS => ?_)
        refine W.eq (g2 := F0 m 1141 ls [.int (s_copy (-9) (SO (tn (xs (i + 1)))) (SO (tn (xs (i + 3)))) L1 L2 (xs (i + 1)) (xs (i + 3)) (xs (i + 2)) (xs (i + 4)) (xs (i + 5))), .int (s_copy (-1) (ln 3) (ln 0) (L 3) (L 0) (xs (i + 1)) (xs (i + 3)) (xs (i + 2)) (xs (i + 4)) (xs (i + 5)))]) rfl ?_
        refine lv_icmp_eq (tgt := 1274) hx hb dL_law_1141 (by decide) (fun _ => ?_) (fun c9 => absurd (a_copy hSj hSj2 hL1c hL2c hj hj2 (xs (i + 2)) (xs (i + 4)) (xs (i + 5))) c9)
        exact hk _ _ _ _ _ _ _ _ _ _ _ _ _ _ _ _ _ _ _ _ _ _ _ _ _ _ _ _ _ _ _ _ _ _ _ _ _ _ _ _ H locs cells slots ⟨hT, hRr, hrl⟩ hP hD hS (by omega) (by omega)
      ·
        refine lv_aload_n hx hb dL_law_1083 rfl (lv_at hl 2 rfl) ?_
        refine ldk (k := 1) C hS dL_law_1084 dL_law_1085 dL_law_1086 dL_law_1087 dL_law_1088 (by decide) (by decide) ?_
        refine ldk (k := 2) C hS dL_law_1089 dL_law_1090 dL_law_1091 dL_law_1092 dL_law_1093 (by decide) (by decide) ?_
        refine ldk (k := 3) C hS dL_law_1094 dL_law_1095 dL_law_1096 dL_law_1097 dL_law_1098 (by decide) (by decide) ?_
        refine ldk (k := 4) C hS dL_law_1099 dL_law_1100 dL_law_1101 dL_law_1102 dL_law_1103 (by decide) (by decide) ?_
        refine ldk (k := 5) C hS dL_law_1104 dL_law_1105 dL_law_1106 dL_law_1107 dL_law_1108 (by decide) (by decide) ?_
        refine wtV (As := [.int (xs (i + 1)), .int (xs (i + 2)), .int (xs (i + 3)), .int (xs (i + 4)), .int (xs (i + 5))]) (rest := []) (ci := 4) (q0 := 0) (W1 := WL G ca ma rr sh sc RA SA R M B tc (f_copy (-1) (ln 3) (ln 1) (L 3) (L 1) (xs (i + 1)) (xs (i + 3)) (xs (i + 2)) (xs (i + 4)) (xs (i + 5))) P K U tM tB P2 K2 U2 W1 N1 M1 K1 ln L (va_up F 1 y3) R M B tc fl SO SL CE mP mK mU at_ rM rB RP RK RB fb fto mW mN mM mQ MO MU) hE h4 (cwV 5 hts gL_law_X4_copy rfl rfl rfl (by decide +kernel) ⟨Nat.le_of_ble_eq_true rfl, Nat.le_of_ble_eq_true rfl⟩) hP hK hD hS [0, 10, 25, 26, 21, 22] (by decide +kernel) rfl (Eq.trans (b := [ca 0, ca 10, sh 3, sc 3, sh 1, sc 1]) rfl rfl) rfl rfl rfl rfl hl.1 rfl (Nat.le_of_ble_eq_true rfl) dL_law_1109 hf0 (fun H locs hP hD hS => ?_)
        refine W.eq (g2 := F0 m 1112 ls [.int (s_copy (-1) (ln 3) (ln 1) (L 3) (L 1) (xs (i + 1)) (xs (i + 3)) (xs (i + 2)) (xs (i + 4)) (xs (i + 5)))]) rfl ?_
        refine lv_aload_n hx hb dL_law_1112 rfl (lv_at hl 1 rfl) ?_
        refine ldk (k := 1) C hS dL_law_1113 dL_law_1114 dL_law_1115 dL_law_1116 dL_law_1117 (by decide) (by decide) ?_
        refine ldk (k := 2) C hS dL_law_1118 dL_law_1119 dL_law_1120 dL_law_1121 dL_law_1122 (by decide) (by decide) ?_
        refine ldk (k := 3) C hS dL_law_1123 dL_law_1124 dL_law_1125 dL_law_1126 dL_law_1127 (by decide) (by decide) ?_
        refine ldk (k := 4) C hS dL_law_1128 dL_law_1129 dL_law_1130 dL_law_1131 dL_law_1132 (by decide) (by decide) ?_
        refine ldk (k := 5) C hS dL_law_1133 dL_law_1134 dL_law_1135 dL_law_1136 dL_law_1137 (by decide) (by decide) ?_
        refine wtV (As := [.int (xs (i + 1)), .int (xs (i + 2)), .int (xs (i + 3)), .int (xs (i + 4)), .int (xs (i + 5))]) (rest := [.int (s_copy (-1) (ln 3) (ln 1) (L 3) (L 1) (xs (i + 1)) (xs (i + 3)) (xs (i + 2)) (xs (i + 4)) (xs (i + 5)))]) (ci := 5) (q0 := 27) (W1 := WL G ca ma rr sh sc RA SA R M B tc (f_copy (-1) (ln 3) (ln 1) (L 3) (L 1) (xs (i + 1)) (xs (i + 3)) (xs (i + 2)) (xs (i + 4)) (xs (i + 5))) P K U tM tB P2 K2 U2 W1 N1 M1 K1 ln L (va_up F 1 y3) R M B tc (f_copy (-1) (ln 3) (ln 1) (L 3) (L 1) (xs (i + 1)) (xs (i + 3)) (xs (i + 2)) (xs (i + 4)) (xs (i + 5))) SO SL (cpG (-9) (SO (tn (xs (i + 1)))) (SO (tn (xs (i + 3)))) L1 L2 (xs (i + 1)) (xs (i + 3)) (xs (i + 2)) (xs (i + 4)) (xs (i + 5)) (va_cpy CE CE (60 * tn (xs (i + 1)) + tn (xs (i + 2))) (60 * tn (xs (i + 3)) + tn (xs (i + 4))) (tn (xs (i + 5)))) CE) mP mK mU at_ rM rB RP RK RB fb fto mW mN mM mQ MO MU) hE hc (cwV 5 hts gL_law_X5_copy rfl rfl rfl (by decide +kernel) ⟨Nat.le_of_ble_eq_true rfl, Nat.le_of_ble_eq_true rfl⟩) hP hK hD hS [27, 28, 29, 30] (by decide +kernel) rfl (Eq.trans (b := [ma 0, ma 1, ma 2, ma 3]) rfl rfl) rfl rfl rfl rfl hl.1 rfl (Nat.le_of_ble_eq_true rfl) dL_law_1138 hf0 (fun H locs hP hD hS => ?_)
        refine W.eq (g2 := F0 m 1141 ls [.int (s_copy (-9) (SO (tn (xs (i + 1)))) (SO (tn (xs (i + 3)))) L1 L2 (xs (i + 1)) (xs (i + 3)) (xs (i + 2)) (xs (i + 4)) (xs (i + 5))), .int (s_copy (-1) (ln 3) (ln 1) (L 3) (L 1) (xs (i + 1)) (xs (i + 3)) (xs (i + 2)) (xs (i + 4)) (xs (i + 5)))]) rfl ?_
        refine lv_icmp_eq (tgt := 1274) hx hb dL_law_1141 (by decide) (fun _ => ?_) (fun c9 => absurd (a_copy hSj hSj2 hL1c hL2c hj hj2 (xs (i + 2)) (xs (i + 4)) (xs (i + 5))) c9)
        exact hk _ _ _ _ _ _ _ _ _ _ _ _ _ _ _ _ _ _ _ _ _ _ _ _ _ _ _ _ _ _ _ _ _ _ _ _ _ _ _ _ H locs cells slots ⟨hT, hRr, hrl⟩ hP hD hS (by omega) (by omega)
      ·
        refine lv_aload_n hx hb dL_law_1083 rfl (lv_at hl 2 rfl) ?_
        refine ldk (k := 1) C hS dL_law_1084 dL_law_1085 dL_law_1086 dL_law_1087 dL_law_1088 (by decide) (by decide) ?_
        refine ldk (k := 2) C hS dL_law_1089 dL_law_1090 dL_law_1091 dL_law_1092 dL_law_1093 (by decide) (by decide) ?_
        refine ldk (k := 3) C hS dL_law_1094 dL_law_1095 dL_law_1096 dL_law_1097 dL_law_1098 (by decide) (by decide) ?_
        refine ldk (k := 4) C hS dL_law_1099 dL_law_1100 dL_law_1101 dL_law_1102 dL_law_1103 (by decide) (by decide) ?_
        refine ldk (k := 5) C hS dL_law_1104 dL_law_1105 dL_law_1106 dL_law_1107 dL_law_1108 (by decide) (by decide) ?_
        refine wtV (As := [.int (xs (i + 1)), .int (xs (i + 2)), .int (xs (i + 3)), .int (xs (i + 4)), .int (xs (i + 5))]) (rest := []) (ci := 4) (q0 := 0) (W1 := WL G ca ma rr sh sc RA SA R M B tc (f_copy (-1) (ln 3) (ln 2) (L 3) (L 2) (xs (i + 1)) (xs (i + 3)) (xs (i + 2)) (xs (i + 4)) (xs (i + 5))) P K U tM tB P2 K2 U2 W1 N1 M1 K1 ln L (va_up F 2 y3) R M B tc fl SO SL CE mP mK mU at_ rM rB RP RK RB fb fto mW mN mM mQ MO MU) hE h4 (cwV 5 hts gL_law_X4_copy rfl rfl rfl (by decide +kernel) ⟨Nat.le_of_ble_eq_true rfl, Nat.le_of_ble_eq_true rfl⟩) hP hK hD hS [0, 10, 25, 26, 23, 24] (by decide +kernel) rfl (Eq.trans (b := [ca 0, ca 10, sh 3, sc 3, sh 2, sc 2]) rfl rfl) rfl rfl rfl rfl hl.1 rfl (Nat.le_of_ble_eq_true rfl) dL_law_1109 hf0 (fun H locs hP hD hS => ?_)
        refine W.eq (g2 := F0 m 1112 ls [.int (s_copy (-1) (ln 3) (ln 2) (L 3) (L 2) (xs (i + 1)) (xs (i + 3)) (xs (i + 2)) (xs (i + 4)) (xs (i + 5)))]) rfl ?_
        refine lv_aload_n hx hb dL_law_1112 rfl (lv_at hl 1 rfl) ?_
        refine ldk (k := 1) C hS dL_law_1113 dL_law_1114 dL_law_1115 dL_law_1116 dL_law_1117 (by decide) (by decide) ?_
        refine ldk (k := 2) C hS dL_law_1118 dL_law_1119 dL_law_1120 dL_law_1121 dL_law_1122 (by decide) (by decide) ?_
        refine ldk (k := 3) C hS dL_law_1123 dL_law_1124 dL_law_1125 dL_law_1126 dL_law_1127 (by decide) (by decide) ?_
        refine ldk (k := 4) C hS dL_law_1128 dL_law_1129 dL_law_1130 dL_law_1131 dL_law_1132 (by decide) (by decide) ?_
        refine ldk (k := 5) C hS dL_law_1133 dL_law_1134 dL_law_1135 dL_law_1136 dL_law_1137 (by decide) (by decide) ?_
        refine wtV (As := [.int (xs (i + 1)), .int (xs (i + 2)), .int (xs (i + 3)), .int (xs (i + 4)), .int (xs (i + 5))]) (rest := [.int (s_copy (-1) (ln 3) (ln 2) (L 3) (L 2) (xs (i + 1)) (xs (i + 3)) (xs (i + 2)) (xs (i + 4)) (xs (i + 5)))]) (ci := 5) (q0 := 27) (W1 := WL G ca ma rr sh sc RA SA R M B tc (f_copy (-1) (ln 3) (ln 2) (L 3) (L 2) (xs (i + 1)) (xs (i + 3)) (xs (i + 2)) (xs (i + 4)) (xs (i + 5))) P K U tM tB P2 K2 U2 W1 N1 M1 K1 ln L (va_up F 2 y3) R M B tc (f_copy (-1) (ln 3) (ln 2) (L 3) (L 2) (xs (i + 1)) (xs (i + 3)) (xs (i + 2)) (xs (i + 4)) (xs (i + 5))) SO SL (cpG (-9) (SO (tn (xs (i + 1)))) (SO (tn (xs (i + 3)))) L1 L2 (xs (i + 1)) (xs (i + 3)) (xs (i + 2)) (xs (i + 4)) (xs (i + 5)) (va_cpy CE CE (60 * tn (xs (i + 1)) + tn (xs (i + 2))) (60 * tn (xs (i + 3)) + tn (xs (i + 4))) (tn (xs (i + 5)))) CE) mP mK mU at_ rM rB RP RK RB fb fto mW mN mM mQ MO MU) hE hc (cwV 5 hts gL_law_X5_copy rfl rfl rfl (by decide +kernel) ⟨Nat.le_of_ble_eq_true rfl, Nat.le_of_ble_eq_true rfl⟩) hP hK hD hS [27, 28, 29, 30] (by decide +kernel) rfl (Eq.trans (b := [ma 0, ma 1, ma 2, ma 3]) rfl rfl) rfl rfl rfl rfl hl.1 rfl (Nat.le_of_ble_eq_true rfl) dL_law_1138 hf0 (fun H locs hP hD hS => ?_)
        refine W.eq (g2 := F0 m 1141 ls [.int (s_copy (-9) (SO (tn (xs (i + 1)))) (SO (tn (xs (i + 3)))) L1 L2 (xs (i + 1)) (xs (i + 3)) (xs (i + 2)) (xs (i + 4)) (xs (i + 5))), .int (s_copy (-1) (ln 3) (ln 2) (L 3) (L 2) (xs (i + 1)) (xs (i + 3)) (xs (i + 2)) (xs (i + 4)) (xs (i + 5)))]) rfl ?_
        refine lv_icmp_eq (tgt := 1274) hx hb dL_law_1141 (by decide) (fun _ => ?_) (fun c9 => absurd (a_copy hSj hSj2 hL1c hL2c hj hj2 (xs (i + 2)) (xs (i + 4)) (xs (i + 5))) c9)
        exact hk _ _ _ _ _ _ _ _ _ _ _ _ _ _ _ _ _ _ _ _ _ _ _ _ _ _ _ _ _ _ _ _ _ _ _ _ _ _ _ _ H locs cells slots ⟨hT, hRr, hrl⟩ hP hD hS (by omega) (by omega)
      · exact absurd rfl hne
