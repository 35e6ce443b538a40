/-! ===== the cases of the law: town ===== -/
set_option maxHeartbeats 4000000 in
set_option maxRecDepth 100000 in
theorem cs_town {p : Program} {l : Launch} {e : Env} {s : State} {m : MethodId} {below : List Frame} {meth : Method} {c : Code} {Q : State → Prop} {b : Nat} {ls : Array Slot} {G : Gl} {ca ma rr sh sc : Nat → Nat} {RA SA : Nat → Option Nat} {L9 i : Nat} {xs : Nat → Int32} (C : LC p s m c b L9 i xs ls G ca ma rr sh RA SA) (hk : WW p l e s m below meth c Q b ls G ca ma rr sh sc RA SA 1274 (101 + i) (2005 + i)) : WW p l e s m below meth c Q b ls G ca ma rr sh sc RA SA 176 (100 + i) (2000 + i) := by
  intro R M B tc fl P K U tM tB P2 K2 U2 W1 N1 M1 K1 ln L F SO SL CE mP mK mU at_ rM rB RP RK RB fb fto mW mN mM mQ MO MU H locs cells slots hr hP hD hS hcb hsb
  obtain ⟨hE, hX, hbl, hK, hRA, hSA, hi, hL9, hl⟩ := id C
  obtain ⟨hx, hb, hml, hown, hts⟩ := id hE
  obtain ⟨hT, hRr, hSs⟩ := id hr
  obtain ⟨hM, hB, hMB, hp, hz, h9, hkk, hkd, hu, hub⟩ := id hT
  have hf0 : cells + 0 ≤ room_1.cells ∧ slots + 0 ≤ room_1.slots := ⟨by show cells + 0 ≤ 600000; omega, by show slots + 0 ≤ 7302250; omega⟩
  by_cases c1 : vp_in (xs (i + 1)) 4
  ·
    obtain ⟨j, hj4, e1⟩ := vp_in_of c1 (by decide)
    have hSj := hSs j hj4
    obtain ⟨hL60, heK, ⟨L1, hL1a, hL1b, hL1c⟩, hcel⟩ := id hSj
    by_cases c2 : vp_in (xs (i + 2)) (2 + 1)
    ·
      have efv : ft (-1) (ln j) (L j) (xs (i + 2)) (xs (i + 3)) (xs (i + 4)) = ft (-9) (SO j) L1 (xs (i + 2)) (xs (i + 3)) (xs (i + 4)) := q_ft heK hL1c (xs (i + 2)) (xs (i + 3)) (xs (i + 4))
      by_cases c3 : ft (-1) (ln j) (L j) (xs (i + 2)) (xs (i + 3)) (xs (i + 4)) = 0
      ·
        obtain ⟨g1, g2, g3⟩ := ft_hc c3
        obtain ⟨ia, na, e3, e4, hle⟩ := hc_of g3 (by omega)
        have c3m : ft (-9) (SO j) L1 (xs (i + 2)) (xs (i + 3)) (xs (i + 4)) = 0 := by rw [← efv]; exact c3
        rw [e3, e4] at c3 c3m
        obtain ⟨FF, hFF⟩ : ∃ FF : Nat → Int32, FF = fun t => CE (60 * j + t) := ⟨_, rfl⟩
        have hF6 : ∀ t, t < 60 → F j t = FF t := fun t ht => by rw [hFF]; exact hcel g1 t ht
        have hF7 : ∀ t, t < 60 → FF t = CE (60 * j + t) := fun t _ => by rw [hFF]
        have eg : (fun t => FF (ia + t)) = (fun t => CE (60 * j + ia + t)) := funext (fun t => by rw [hFF]; show CE (60 * j + (ia + t)) = CE (60 * j + ia + t); rw [Nat.add_assoc])
        have hrl := k_FF hSs hF7
        obtain ⟨M9, hM9⟩ : ∃ z, z = mT (fun t => CE (60 * j + ia + t)) na := ⟨_, rfl⟩
        have hMo := mT_or (fun t => CE (60 * j + ia + t)) na
        rw [← hM9] at hMo
        have hf1 : cells + 1 ≤ room_1.cells ∧ slots + 5 ≤ room_1.slots := ⟨by show cells + 1 ≤ 600000; omega, by show slots + 5 ≤ 7302250; omega⟩
        have hf2 : cells + 1 + 0 ≤ room_1.cells ∧ slots + 5 + 0 ≤ room_1.slots := ⟨by show cells + 1 + 0 ≤ 600000; omega, by show slots + 5 + 0 ≤ 7302250; omega⟩
        by_cases c4 : okT (fun t => CE (60 * j + ia + t)) M9 na
        ·
          obtain ⟨hM2, hM5⟩ := ok_M c4 hMo
          obtain ⟨B9, hB9⟩ : ∃ z, z = (na - (2 + M9 * (M9 + 1))) / 3 := ⟨_, rfl⟩
          have hB4 := ok_B c4 hM2 hM5
          rw [← hB9] at hB4
          have h4 := kX4_towng l G (ca 0) (ca 1) (ca 5) (ca 9) (ca 10) R tc fl SA (sh j) (sc j) (ln j) (L j) FF j (xs (i + 2)) ia na M9 (ca 2) (ca 3) (ca 4) M B B9 P K U hj4 c2 (hSA j hj4) c3 (by omega) (by rw [eg]; exact hM9) (by rw [eg]; exact (ffv_iff (by omega)).mpr c4) hM2 hM5 c4.2.1 hB9 hB4
          rw [eg] at h4
          have hc := kX5_towng l G (ma 0) fl tc (ma 1) (ma 2) (ma 3) M B (ma 4) (ma 5) (ma 6) at_ rM rB (ma 7) (ma 8) (ma 9) fb fto R (ma 10) (ma 11) (ma 12) (ma 13) (ma 14) (ma 15) SO SL CE RP RK RB j L1 (xs (i + 2)) ia na M9 mP mK mU B9 hj4 hL1b c2 c3m (by omega) hM9 c4 hM5 hB9 hB4
          have hT9 := k_town (P := P) (K := K) (U := U) (mP := mP) (mK := mK) (mU := mU) (RP := RP) (RK := RK) (RB := RB) (B := B9) c4 hM2 hM5 hB9
          rcases (show j = 0 ∨ j = 1 ∨ j = 2 ∨ j = 3 by omega) with rfl | rfl | rfl | rfl
          ·
            have hP : va_P G.1 vwCl (WL G ca ma rr sh sc RA SA R M B tc fl P K U tM tB P2 K2 U2 W1 N1 M1 K1 ln L (va_up F 0 FF) R M B tc fl SO SL CE mP mK mU at_ rM rB RP RK RB fb fto mW mN mM mQ MO MU) H := P_arr (G := G) (n := 60) (a := sc 0) (f := F 0) hP 20 FF rfl hF6
            have hD : va_D (fun q : Nat => s.heap.size ≤ q) (WL G ca ma rr sh sc RA SA R M B tc fl P K U tM tB P2 K2 U2 W1 N1 M1 K1 ln L (va_up F 0 FF) R M B tc fl SO SL CE mP mK mU at_ rM rB RP RK RB fb fto mW mN mM mQ MO MU) := sAll_D (is := [20]) (w := [(sc 0, aI G 60 (F 0))]) (w' := [(sc 0, aI G 60 FF)]) hD rfl rfl
            refine lv_aload_n hx hb dL_law_176 rfl (lv_at hl 2 rfl) ?_
            refine ldk (k := 1) C hS dL_law_177 dL_law_178 dL_law_179 dL_law_180 dL_law_181 (by decide) (by decide) ?_
            refine ldk (k := 2) C hS dL_law_182 dL_law_183 dL_law_184 dL_law_185 dL_law_186 (by decide) (by decide) ?_
            refine ldk (k := 3) C hS dL_law_187 dL_law_188 dL_law_189 dL_law_190 dL_law_191 (by decide) (by decide) ?_
            refine ldk (k := 4) C hS dL_law_192 dL_law_193 dL_law_194 dL_law_195 dL_law_196 (by decide) (by decide) ?_
            rw [e1, e3, e4]
            refine mkV (As := [.int (nI 0), .int (xs (i + 2)), .int (nI ia), .int (nI na)]) (rest := []) (ci := 4) (q0 := 0) hE h4 (cwV 4 hts gL_law_X4_town rfl rfl rfl (by decide +kernel) ⟨Nat.le_of_ble_eq_true rfl, Nat.le_of_ble_eq_true rfl⟩) hP hK hD hS (fun q h => h) [0, 10, 19, 20, 1, 2, 3, 4] (by decide) rfl rfl rfl rfl hl.1 rfl (Nat.le_of_ble_eq_true rfl) dL_law_197 hf1 (fun rv9 w9 x9 H locs hF9 hP hD hS => ?_)
            obtain ⟨rfl, rfl⟩ := hF9
            have hP : va_P G.1 vwCl (WL G ca ma rr sh sc RA SA 0 M9 B9 tc (nI 0) (spO P (fun t => CE (60 * 0 + ia + t)) M9 M9) (skK K (fun t => CE (60 * 0 + ia + t)) M9 B9) (skU U (fun t => CE (60 * 0 + ia + t)) M9 B9) tM tB P2 K2 U2 W1 N1 M1 K1 ln L (va_up F 0 FF) R M B tc fl SO SL CE mP mK mU at_ rM rB RP RK RB fb fto mW mN mM mQ MO MU) H := wl_P hP
            have hD : va_D (fun q : Nat => s.heap.size ≤ q) (WL G ca ma rr sh sc RA SA 0 M9 B9 tc (nI 0) (spO P (fun t => CE (60 * 0 + ia + t)) M9 M9) (skK K (fun t => CE (60 * 0 + ia + t)) M9 B9) (skU U (fun t => CE (60 * 0 + ia + t)) M9 B9) tM tB P2 K2 U2 W1 N1 M1 K1 ln L (va_up F 0 FF) R M B tc fl SO SL CE mP mK mU at_ rM rB RP RK RB fb fto mW mN mM mQ MO MU) := wl_D hD
            refine W.eq (g2 := F0 m 200 ls [.int (nI B9)]) rfl ?_
            refine lv_aload_n hx hb dL_law_200 rfl (lv_at hl 1 rfl) ?_
            refine ldk (k := 1) C hS dL_law_201 dL_law_202 dL_law_203 dL_law_204 dL_law_205 (by decide) (by decide) ?_
            refine ldk (k := 2) C hS dL_law_206 dL_law_207 dL_law_208 dL_law_209 dL_law_210 (by decide) (by decide) ?_
            refine ldk (k := 3) C hS dL_law_211 dL_law_212 dL_law_213 dL_law_214 dL_law_215 (by decide) (by decide) ?_
            refine ldk (k := 4) C hS dL_law_216 dL_law_217 dL_law_218 dL_law_219 dL_law_220 (by decide) (by decide) ?_
            rw [e1, e3, e4]
            refine weV (As := [.int (nI 0), .int (xs (i + 2)), .int (nI ia), .int (nI na)]) (rest := [.int (nI B9)]) (ci := 5) (q0 := 27) hE hc (cwV 4 hts gL_law_X5_town rfl rfl rfl (by decide +kernel) ⟨Nat.le_of_ble_eq_true rfl, Nat.le_of_ble_eq_true rfl⟩) hP hK hD hS [27, 31, 32, 33, 28, 29, 30, 34, 35, 36] (by decide) rfl rfl rfl rfl hl.1 rfl (Nat.le_of_ble_eq_true rfl) dL_law_221 hf2 (fun rv9 w9 H locs hF9 hP hD hS => ?_)
            obtain ⟨at9, rfl, rfl⟩ := hF9
            have hP : va_P G.1 vwCl (WL G ca ma rr sh sc RA SA 0 M9 B9 tc (nI 0) (spO P (fun t => CE (60 * 0 + ia + t)) M9 M9) (skK K (fun t => CE (60 * 0 + ia + t)) M9 B9) (skU U (fun t => CE (60 * 0 + ia + t)) M9 B9) tM tB P2 K2 U2 W1 N1 M1 K1 ln L (va_up F 0 FF) 0 M9 B9 tc (nI 0) SO SL CE (cpA mP (rtP RP CE M9 (60 * 0 + ia) M9) 25) (cpA mK (rtK RK CE (60 * 0 + ia + (2 + M9 * (M9 + 1))) B9) B9) (cpA mU (rtB RB CE (60 * 0 + ia + (2 + M9 * (M9 + 1))) B9) B9) at9 (nI M9) (nI B9) (rtP RP CE M9 (60 * 0 + ia) M9) (rtK RK CE (60 * 0 + ia + (2 + M9 * (M9 + 1))) B9) (rtB RB CE (60 * 0 + ia + (2 + M9 * (M9 + 1))) B9) fb fto mW mN mM mQ MO MU) H := hP
            have hD : va_D (fun q : Nat => s.heap.size ≤ q) (WL G ca ma rr sh sc RA SA 0 M9 B9 tc (nI 0) (spO P (fun t => CE (60 * 0 + ia + t)) M9 M9) (skK K (fun t => CE (60 * 0 + ia + t)) M9 B9) (skU U (fun t => CE (60 * 0 + ia + t)) M9 B9) tM tB P2 K2 U2 W1 N1 M1 K1 ln L (va_up F 0 FF) 0 M9 B9 tc (nI 0) SO SL CE (cpA mP (rtP RP CE M9 (60 * 0 + ia) M9) 25) (cpA mK (rtK RK CE (60 * 0 + ia + (2 + M9 * (M9 + 1))) B9) B9) (cpA mU (rtB RB CE (60 * 0 + ia + (2 + M9 * (M9 + 1))) B9) B9) at9 (nI M9) (nI B9) (rtP RP CE M9 (60 * 0 + ia) M9) (rtK RK CE (60 * 0 + ia + (2 + M9 * (M9 + 1))) B9) (rtB RB CE (60 * 0 + ia + (2 + M9 * (M9 + 1))) B9) fb fto mW mN mM mQ MO MU) := hD
            refine W.eq (g2 := F0 m 224 ls [.int (nI B9), .int (nI B9)]) rfl ?_
            refine lv_icmp_eq (tgt := 1274) hx hb dL_law_224 (by decide) (fun _ => ?_) (fun c9 => absurd rfl c9)
            exact hk _ _ _ _ _ _ _ _ _ _ _ _ _ _ _ _ _ _ _ _ _ _ _ _ _ _ _ _ _ _ _ _ _ _ _ _ _ _ _ _ H locs (cells + 1) (slots + 5) ⟨hT9, RelR.nil, hrl⟩ hP hD hS (by omega) (by omega)
          ·
            have hP : va_P G.1 vwCl (WL G ca ma rr sh sc RA SA R M B tc fl P K U tM tB P2 K2 U2 W1 N1 M1 K1 ln L (va_up F 1 FF) R M B tc fl SO SL CE mP mK mU at_ rM rB RP RK RB fb fto mW mN mM mQ MO MU) H := P_arr (G := G) (n := 60) (a := sc 1) (f := F 1) hP 22 FF rfl hF6
            have hD : va_D (fun q : Nat => s.heap.size ≤ q) (WL G ca ma rr sh sc RA SA R M B tc fl P K U tM tB P2 K2 U2 W1 N1 M1 K1 ln L (va_up F 1 FF) R M B tc fl SO SL CE mP mK mU at_ rM rB RP RK RB fb fto mW mN mM mQ MO MU) := sAll_D (is := [22]) (w := [(sc 1, aI G 60 (F 1))]) (w' := [(sc 1, aI G 60 FF)]) hD rfl rfl
            refine lv_aload_n hx hb dL_law_176 rfl (lv_at hl 2 rfl) ?_
            refine ldk (k := 1) C hS dL_law_177 dL_law_178 dL_law_179 dL_law_180 dL_law_181 (by decide) (by decide) ?_
            refine ldk (k := 2) C hS dL_law_182 dL_law_183 dL_law_184 dL_law_185 dL_law_186 (by decide) (by decide) ?_
            refine ldk (k := 3) C hS dL_law_187 dL_law_188 dL_law_189 dL_law_190 dL_law_191 (by decide) (by decide) ?_
            refine ldk (k := 4) C hS dL_law_192 dL_law_193 dL_law_194 dL_law_195 dL_law_196 (by decide) (by decide) ?_
            rw [e1, e3, e4]
            refine mkV (As := [.int (nI 1), .int (xs (i + 2)), .int (nI ia), .int (nI na)]) (rest := []) (ci := 4) (q0 := 0) hE h4 (cwV 4 hts gL_law_X4_town rfl rfl rfl (by decide +kernel) ⟨Nat.le_of_ble_eq_true rfl, Nat.le_of_ble_eq_true rfl⟩) hP hK hD hS (fun q h => h) [0, 10, 21, 22, 1, 2, 3, 4] (by decide) rfl rfl rfl rfl hl.1 rfl (Nat.le_of_ble_eq_true rfl) dL_law_197 hf1 (fun rv9 w9 x9 H locs hF9 hP hD hS => ?_)
            obtain ⟨rfl, rfl⟩ := hF9
            have hP : va_P G.1 vwCl (WL G ca ma rr sh sc RA SA 0 M9 B9 tc (nI 0) (spO P (fun t => CE (60 * 1 + ia + t)) M9 M9) (skK K (fun t => CE (60 * 1 + ia + t)) M9 B9) (skU U (fun t => CE (60 * 1 + ia + t)) M9 B9) tM tB P2 K2 U2 W1 N1 M1 K1 ln L (va_up F 1 FF) R M B tc fl SO SL CE mP mK mU at_ rM rB RP RK RB fb fto mW mN mM mQ MO MU) H := wl_P hP
            have hD : va_D (fun q : Nat => s.heap.size ≤ q) (WL G ca ma rr sh sc RA SA 0 M9 B9 tc (nI 0) (spO P (fun t => CE (60 * 1 + ia + t)) M9 M9) (skK K (fun t => CE (60 * 1 + ia + t)) M9 B9) (skU U (fun t => CE (60 * 1 + ia + t)) M9 B9) tM tB P2 K2 U2 W1 N1 M1 K1 ln L (va_up F 1 FF) R M B tc fl SO SL CE mP mK mU at_ rM rB RP RK RB fb fto mW mN mM mQ MO MU) := wl_D hD
            refine W.eq (g2 := F0 m 200 ls [.int (nI B9)]) rfl ?_
            refine lv_aload_n hx hb dL_law_200 rfl (lv_at hl 1 rfl) ?_
            refine ldk (k := 1) C hS dL_law_201 dL_law_202 dL_law_203 dL_law_204 dL_law_205 (by decide) (by decide) ?_
            refine ldk (k := 2) C hS dL_law_206 dL_law_207 dL_law_208 dL_law_209 dL_law_210 (by decide) (by decide) ?_
            refine ldk (k := 3) C hS dL_law_211 dL_law_212 dL_law_213 dL_law_214 dL_law_215 (by decide) (by decide) ?_
            refine ldk (k := 4) C hS dL_law_216 dL_law_217 dL_law_218 dL_law_219 dL_law_220 (by decide) (by decide) ?_
            rw [e1, e3, e4]
            refine weV (As := [.int (nI 1), .int (xs (i + 2)), .int (nI ia), .int (nI na)]) (rest := [.int (nI B9)]) (ci := 5) (q0 := 27) hE hc (cwV 4 hts gL_law_X5_town rfl rfl rfl (by decide +kernel) ⟨Nat.le_of_ble_eq_true rfl, Nat.le_of_ble_eq_true rfl⟩) hP hK hD hS [27, 31, 32, 33, 28, 29, 30, 34, 35, 36] (by decide) rfl rfl rfl rfl hl.1 rfl (Nat.le_of_ble_eq_true rfl) dL_law_221 hf2 (fun rv9 w9 H locs hF9 hP hD hS => ?_)
            obtain ⟨at9, rfl, rfl⟩ := hF9
            have hP : va_P G.1 vwCl (WL G ca ma rr sh sc RA SA 0 M9 B9 tc (nI 0) (spO P (fun t => CE (60 * 1 + ia + t)) M9 M9) (skK K (fun t => CE (60 * 1 + ia + t)) M9 B9) (skU U (fun t => CE (60 * 1 + ia + t)) M9 B9) tM tB P2 K2 U2 W1 N1 M1 K1 ln L (va_up F 1 FF) 0 M9 B9 tc (nI 0) SO SL CE (cpA mP (rtP RP CE M9 (60 * 1 + ia) M9) 25) (cpA mK (rtK RK CE (60 * 1 + ia + (2 + M9 * (M9 + 1))) B9) B9) (cpA mU (rtB RB CE (60 * 1 + ia + (2 + M9 * (M9 + 1))) B9) B9) at9 (nI M9) (nI B9) (rtP RP CE M9 (60 * 1 + ia) M9) (rtK RK CE (60 * 1 + ia + (2 + M9 * (M9 + 1))) B9) (rtB RB CE (60 * 1 + ia + (2 + M9 * (M9 + 1))) B9) fb fto mW mN mM mQ MO MU) H := hP
            have hD : va_D (fun q : Nat => s.heap.size ≤ q) (WL G ca ma rr sh sc RA SA 0 M9 B9 tc (nI 0) (spO P (fun t => CE (60 * 1 + ia + t)) M9 M9) (skK K (fun t => CE (60 * 1 + ia + t)) M9 B9) (skU U (fun t => CE (60 * 1 + ia + t)) M9 B9) tM tB P2 K2 U2 W1 N1 M1 K1 ln L (va_up F 1 FF) 0 M9 B9 tc (nI 0) SO SL CE (cpA mP (rtP RP CE M9 (60 * 1 + ia) M9) 25) (cpA mK (rtK RK CE (60 * 1 + ia + (2 + M9 * (M9 + 1))) B9) B9) (cpA mU (rtB RB CE (60 * 1 + ia + (2 + M9 * (M9 + 1))) B9) B9) at9 (nI M9) (nI B9) (rtP RP CE M9 (60 * 1 + ia) M9) (rtK RK CE (60 * 1 + ia + (2 + M9 * (M9 + 1))) B9) (rtB RB CE (60 * 1 + ia + (2 + M9 * (M9 + 1))) B9) fb fto mW mN mM mQ MO MU) := hD
            refine W.eq (g2 := F0 m 224 ls [.int (nI B9), .int (nI B9)]) rfl ?_
            refine lv_icmp_eq (tgt := 1274) hx hb dL_law_224 (by decide) (fun _ => ?_) (fun c9 => absurd rfl c9)
            exact hk _ _ _ _ _ _ _ _ _ _ _ _ _ _ _ _ _ _ _ _ _ _ _ _ _ _ _ _ _ _ _ _ _ _ _ _ _ _ _ _ H locs (cells + 1) (slots + 5) ⟨hT9, RelR.nil, hrl⟩ hP hD hS (by omega) (by omega)
          ·
            have hP : va_P G.1 vwCl (WL G ca ma rr sh sc RA SA R M B tc fl P K U tM tB P2 K2 U2 W1 N1 M1 K1 ln L (va_up F 2 FF) R M B tc fl SO SL CE mP mK mU at_ rM rB RP RK RB fb fto mW mN mM mQ MO MU) H := P_arr (G := G) (n := 60) (a := sc 2) (f := F 2) hP 24 FF rfl hF6
            have hD : va_D (fun q : Nat => s.heap.size ≤ q) (WL G ca ma rr sh sc RA SA R M B tc fl P K U tM tB P2 K2 U2 W1 N1 M1 K1 ln L (va_up F 2 FF) R M B tc fl SO SL CE mP mK mU at_ rM rB RP RK RB fb fto mW mN mM mQ MO MU) := sAll_D (is := [24]) (w := [(sc 2, aI G 60 (F 2))]) (w' := [(sc 2, aI G 60 FF)]) hD rfl rfl
            refine lv_aload_n hx hb dL_law_176 rfl (lv_at hl 2 rfl) ?_
            refine ldk (k := 1) C hS dL_law_177 dL_law_178 dL_law_179 dL_law_180 dL_law_181 (by decide) (by decide) ?_
            refine ldk (k := 2) C hS dL_law_182 dL_law_183 dL_law_184 dL_law_185 dL_law_186 (by decide) (by decide) ?_
            refine ldk (k := 3) C hS dL_law_187 dL_law_188 dL_law_189 dL_law_190 dL_law_191 (by decide) (by decide) ?_
            refine ldk (k := 4) C hS dL_law_192 dL_law_193 dL_law_194 dL_law_195 dL_law_196 (by decide) (by decide) ?_
            rw [e1, e3, e4]
            refine mkV (As := [.int (nI 2), .int (xs (i + 2)), .int (nI ia), .int (nI na)]) (rest := []) (ci := 4) (q0 := 0) hE h4 (cwV 4 hts gL_law_X4_town rfl rfl rfl (by decide +kernel) ⟨Nat.le_of_ble_eq_true rfl, Nat.le_of_ble_eq_true rfl⟩) hP hK hD hS (fun q h => h) [0, 10, 23, 24, 1, 2, 3, 4] (by decide) rfl rfl rfl rfl hl.1 rfl (Nat.le_of_ble_eq_true rfl) dL_law_197 hf1 (fun rv9 w9 x9 H locs hF9 hP hD hS => ?_)
            obtain ⟨rfl, rfl⟩ := hF9
            have hP : va_P G.1 vwCl (WL G ca ma rr sh sc RA SA 0 M9 B9 tc (nI 0) (spO P (fun t => CE (60 * 2 + ia + t)) M9 M9) (skK K (fun t => CE (60 * 2 + ia + t)) M9 B9) (skU U (fun t => CE (60 * 2 + ia + t)) M9 B9) tM tB P2 K2 U2 W1 N1 M1 K1 ln L (va_up F 2 FF) R M B tc fl SO SL CE mP mK mU at_ rM rB RP RK RB fb fto mW mN mM mQ MO MU) H := wl_P hP
            have hD : va_D (fun q : Nat => s.heap.size ≤ q) (WL G ca ma rr sh sc RA SA 0 M9 B9 tc (nI 0) (spO P (fun t => CE (60 * 2 + ia + t)) M9 M9) (skK K (fun t => CE (60 * 2 + ia + t)) M9 B9) (skU U (fun t => CE (60 * 2 + ia + t)) M9 B9) tM tB P2 K2 U2 W1 N1 M1 K1 ln L (va_up F 2 FF) R M B tc fl SO SL CE mP mK mU at_ rM rB RP RK RB fb fto mW mN mM mQ MO MU) := wl_D hD
            refine W.eq (g2 := F0 m 200 ls [.int (nI B9)]) rfl ?_
            refine lv_aload_n hx hb dL_law_200 rfl (lv_at hl 1 rfl) ?_
            refine ldk (k := 1) C hS dL_law_201 dL_law_202 dL_law_203 dL_law_204 dL_law_205 (by decide) (by decide) ?_
            refine ldk (k := 2) C hS dL_law_206 dL_law_207 dL_law_208 dL_law_209 dL_law_210 (by decide) (by decide) ?_
            refine ldk (k := 3) C hS dL_law_211 dL_law_212 dL_law_213 dL_law_214 dL_law_215 (by decide) (by decide) ?_
            refine ldk (k := 4) C hS dL_law_216 dL_law_217 dL_law_218 dL_law_219 dL_law_220 (by decide) (by decide) ?_
            rw [e1, e3, e4]
            refine weV (As := [.int (nI 2), .int (xs (i + 2)), .int (nI ia), .int (nI na)]) (rest := [.int (nI B9)]) (ci := 5) (q0 := 27) hE hc (cwV 4 hts gL_law_X5_town rfl rfl rfl (by decide +kernel) ⟨Nat.le_of_ble_eq_true rfl, Nat.le_of_ble_eq_true rfl⟩) hP hK hD hS [27, 31, 32, 33, 28, 29, 30, 34, 35, 36] (by decide) rfl rfl rfl rfl hl.1 rfl (Nat.le_of_ble_eq_true rfl) dL_law_221 hf2 (fun rv9 w9 H locs hF9 hP hD hS => ?_)
            obtain ⟨at9, rfl, rfl⟩ := hF9
            have hP : va_P G.1 vwCl (WL G ca ma rr sh sc RA SA 0 M9 B9 tc (nI 0) (spO P (fun t => CE (60 * 2 + ia + t)) M9 M9) (skK K (fun t => CE (60 * 2 + ia + t)) M9 B9) (skU U (fun t => CE (60 * 2 + ia + t)) M9 B9) tM tB P2 K2 U2 W1 N1 M1 K1 ln L (va_up F 2 FF) 0 M9 B9 tc (nI 0) SO SL CE (cpA mP (rtP RP CE M9 (60 * 2 + ia) M9) 25) (cpA mK (rtK RK CE (60 * 2 + ia + (2 + M9 * (M9 + 1))) B9) B9) (cpA mU (rtB RB CE (60 * 2 + ia + (2 + M9 * (M9 + 1))) B9) B9) at9 (nI M9) (nI B9) (rtP RP CE M9 (60 * 2 + ia) M9) (rtK RK CE (60 * 2 + ia + (2 + M9 * (M9 + 1))) B9) (rtB RB CE (60 * 2 + ia + (2 + M9 * (M9 + 1))) B9) fb fto mW mN mM mQ MO MU) H := hP
            have hD : va_D (fun q : Nat => s.heap.size ≤ q) (WL G ca ma rr sh sc RA SA 0 M9 B9 tc (nI 0) (spO P (fun t => CE (60 * 2 + ia + t)) M9 M9) (skK K (fun t => CE (60 * 2 + ia + t)) M9 B9) (skU U (fun t => CE (60 * 2 + ia + t)) M9 B9) tM tB P2 K2 U2 W1 N1 M1 K1 ln L (va_up F 2 FF) 0 M9 B9 tc (nI 0) SO SL CE (cpA mP (rtP RP CE M9 (60 * 2 + ia) M9) 25) (cpA mK (rtK RK CE (60 * 2 + ia + (2 + M9 * (M9 + 1))) B9) B9) (cpA mU (rtB RB CE (60 * 2 + ia + (2 + M9 * (M9 + 1))) B9) B9) at9 (nI M9) (nI B9) (rtP RP CE M9 (60 * 2 + ia) M9) (rtK RK CE (60 * 2 + ia + (2 + M9 * (M9 + 1))) B9) (rtB RB CE (60 * 2 + ia + (2 + M9 * (M9 + 1))) B9) fb fto mW mN mM mQ MO MU) := hD
            refine W.eq (g2 := F0 m 224 ls [.int (nI B9), .int (nI B9)]) rfl ?_
            refine lv_icmp_eq (tgt := 1274) hx hb dL_law_224 (by decide) (fun _ => ?_) (fun c9 => absurd rfl c9)
            exact hk _ _ _ _ _ _ _ _ _ _ _ _ _ _ _ _ _ _ _ _ _ _ _ _ _ _ _ _ _ _ _ _ _ _ _ _ _ _ _ _ H locs (cells + 1) (slots + 5) ⟨hT9, RelR.nil, hrl⟩ hP hD hS (by omega) (by omega)
          ·
            have hP : va_P G.1 vwCl (WL G ca ma rr sh sc RA SA R M B tc fl P K U tM tB P2 K2 U2 W1 N1 M1 K1 ln L (va_up F 3 FF) R M B tc fl SO SL CE mP mK mU at_ rM rB RP RK RB fb fto mW mN mM mQ MO MU) H := P_arr (G := G) (n := 60) (a := sc 3) (f := F 3) hP 26 FF rfl hF6
            have hD : va_D (fun q : Nat => s.heap.size ≤ q) (WL G ca ma rr sh sc RA SA R M B tc fl P K U tM tB P2 K2 U2 W1 N1 M1 K1 ln L (va_up F 3 FF) R M B tc fl SO SL CE mP mK mU at_ rM rB RP RK RB fb fto mW mN mM mQ MO MU) := sAll_D (is := [26]) (w := [(sc 3, aI G 60 (F 3))]) (w' := [(sc 3, aI G 60 FF)]) hD rfl rfl
            refine lv_aload_n hx hb dL_law_176 rfl (lv_at hl 2 rfl) ?_
            refine ldk (k := 1) C hS dL_law_177 dL_law_178 dL_law_179 dL_law_180 dL_law_181 (by decide) (by decide) ?_
            refine ldk (k := 2) C hS dL_law_182 dL_law_183 dL_law_184 dL_law_185 dL_law_186 (by decide) (by decide) ?_
            refine ldk (k := 3) C hS dL_law_187 dL_law_188 dL_law_189 dL_law_190 dL_law_191 (by decide) (by decide) ?_
            refine ldk (k := 4) C hS dL_law_192 dL_law_193 dL_law_194 dL_law_195 dL_law_196 (by decide) (by decide) ?_
            rw [e1, e3, e4]
            refine mkV (As := [.int (nI 3), .int (xs (i + 2)), .int (nI ia), .int (nI na)]) (rest := []) (ci := 4) (q0 := 0) hE h4 (cwV 4 hts gL_law_X4_town rfl rfl rfl (by decide +kernel) ⟨Nat.le_of_ble_eq_true rfl, Nat.le_of_ble_eq_true rfl⟩) hP hK hD hS (fun q h => h) [0, 10, 25, 26, 1, 2, 3, 4] (by decide) rfl rfl rfl rfl hl.1 rfl (Nat.le_of_ble_eq_true rfl) dL_law_197 hf1 (fun rv9 w9 x9 H locs hF9 hP hD hS => ?_)
            obtain ⟨rfl, rfl⟩ := hF9
            have hP : va_P G.1 vwCl (WL G ca ma rr sh sc RA SA 0 M9 B9 tc (nI 0) (spO P (fun t => CE (60 * 3 + ia + t)) M9 M9) (skK K (fun t => CE (60 * 3 + ia + t)) M9 B9) (skU U (fun t => CE (60 * 3 + ia + t)) M9 B9) tM tB P2 K2 U2 W1 N1 M1 K1 ln L (va_up F 3 FF) R M B tc fl SO SL CE mP mK mU at_ rM rB RP RK RB fb fto mW mN mM mQ MO MU) H := wl_P hP
            have hD : va_D (fun q : Nat => s.heap.size ≤ q) (WL G ca ma rr sh sc RA SA 0 M9 B9 tc (nI 0) (spO P (fun t => CE (60 * 3 + ia + t)) M9 M9) (skK K (fun t => CE (60 * 3 + ia + t)) M9 B9) (skU U (fun t => CE (60 * 3 + ia + t)) M9 B9) tM tB P2 K2 U2 W1 N1 M1 K1 ln L (va_up F 3 FF) R M B tc fl SO SL CE mP mK mU at_ rM rB RP RK RB fb fto mW mN mM mQ MO MU) := wl_D hD
            refine W.eq (g2 := F0 m 200 ls [.int (nI B9)]) rfl ?_
            refine lv_aload_n hx hb dL_law_200 rfl (lv_at hl 1 rfl) ?_
            refine ldk (k := 1) C hS dL_law_201 dL_law_202 dL_law_203 dL_law_204 dL_law_205 (by decide) (by decide) ?_
            refine ldk (k := 2) C hS dL_law_206 dL_law_207 dL_law_208 dL_law_209 dL_law_210 (by decide) (by decide) ?_
            refine ldk (k := 3) C hS dL_law_211 dL_law_212 dL_law_213 dL_law_214 dL_law_215 (by decide) (by decide) ?_
            refine ldk (k := 4) C hS dL_law_216 dL_law_217 dL_law_218 dL_law_219 dL_law_220 (by decide) (by decide) ?_
            rw [e1, e3, e4]
            refine weV (As := [.int (nI 3), .int (xs (i + 2)), .int (nI ia), .int (nI na)]) (rest := [.int (nI B9)]) (ci := 5) (q0 := 27) hE hc (cwV 4 hts gL_law_X5_town rfl rfl rfl (by decide +kernel) ⟨Nat.le_of_ble_eq_true rfl, Nat.le_of_ble_eq_true rfl⟩) hP hK hD hS [27, 31, 32, 33, 28, 29, 30, 34, 35, 36] (by decide) rfl rfl rfl rfl hl.1 rfl (Nat.le_of_ble_eq_true rfl) dL_law_221 hf2 (fun rv9 w9 H locs hF9 hP hD hS => ?_)
            obtain ⟨at9, rfl, rfl⟩ := hF9
            have hP : va_P G.1 vwCl (WL G ca ma rr sh sc RA SA 0 M9 B9 tc (nI 0) (spO P (fun t => CE (60 * 3 + ia + t)) M9 M9) (skK K (fun t => CE (60 * 3 + ia + t)) M9 B9) (skU U (fun t => CE (60 * 3 + ia + t)) M9 B9) tM tB P2 K2 U2 W1 N1 M1 K1 ln L (va_up F 3 FF) 0 M9 B9 tc (nI 0) SO SL CE (cpA mP (rtP RP CE M9 (60 * 3 + ia) M9) 25) (cpA mK (rtK RK CE (60 * 3 + ia + (2 + M9 * (M9 + 1))) B9) B9) (cpA mU (rtB RB CE (60 * 3 + ia + (2 + M9 * (M9 + 1))) B9) B9) at9 (nI M9) (nI B9) (rtP RP CE M9 (60 * 3 + ia) M9) (rtK RK CE (60 * 3 + ia + (2 + M9 * (M9 + 1))) B9) (rtB RB CE (60 * 3 + ia + (2 + M9 * (M9 + 1))) B9) fb fto mW mN mM mQ MO MU) H := hP
            have hD : va_D (fun q : Nat => s.heap.size ≤ q) (WL G ca ma rr sh sc RA SA 0 M9 B9 tc (nI 0) (spO P (fun t => CE (60 * 3 + ia + t)) M9 M9) (skK K (fun t => CE (60 * 3 + ia + t)) M9 B9) (skU U (fun t => CE (60 * 3 + ia + t)) M9 B9) tM tB P2 K2 U2 W1 N1 M1 K1 ln L (va_up F 3 FF) 0 M9 B9 tc (nI 0) SO SL CE (cpA mP (rtP RP CE M9 (60 * 3 + ia) M9) 25) (cpA mK (rtK RK CE (60 * 3 + ia + (2 + M9 * (M9 + 1))) B9) B9) (cpA mU (rtB RB CE (60 * 3 + ia + (2 + M9 * (M9 + 1))) B9) B9) at9 (nI M9) (nI B9) (rtP RP CE M9 (60 * 3 + ia) M9) (rtK RK CE (60 * 3 + ia + (2 + M9 * (M9 + 1))) B9) (rtB RB CE (60 * 3 + ia + (2 + M9 * (M9 + 1))) B9) fb fto mW mN mM mQ MO MU) := hD
            refine W.eq (g2 := F0 m 224 ls [.int (nI B9), .int (nI B9)]) rfl ?_
            refine lv_icmp_eq (tgt := 1274) hx hb dL_law_224 (by decide) (fun _ => ?_) (fun c9 => absurd rfl c9)
            exact hk _ _ _ _ _ _ _ _ _ _ _ _ _ _ _ _ _ _ _ _ _ _ _ _ _ _ _ _ _ _ _ _ _ _ _ _ _ _ _ _ H locs (cells + 1) (slots + 5) ⟨hT9, RelR.nil, hrl⟩ hP hD hS (by omega) (by omega)
        ·
          have h4 := kX4_townb l G (ca 0) (ca 1) (ca 5) (ca 9) (ca 10) R tc fl SA (sh j) (sc j) (ln j) (L j) FF j (xs (i + 2)) ia na M9 hj4 c2 (hSA j hj4) c3 (by omega) (by rw [eg]; exact hM9) (by rw [eg]; exact fun q => c4 ((ffv_iff (by omega)).mp q))
          rw [eg] at h4
          have hc := kX5_townb l G (ma 0) fl tc (ma 1) (ma 2) (ma 3) M B (ma 4) (ma 5) (ma 6) at_ rM rB (ma 7) (ma 8) (ma 9) fb fto R (ma 10) (ma 11) (ma 12) (ma 13) (ma 14) (ma 15) SO SL CE RP RK RB j L1 (xs (i + 2)) ia na M9 hj4 hL1b c2 c3m (by omega) hM9 c4
          rcases (show j = 0 ∨ j = 1 ∨ j = 2 ∨ j = 3 by omega) with rfl | rfl | rfl | rfl
          ·
            have hP : va_P G.1 vwCl (WL G ca ma rr sh sc RA SA R M B tc fl P K U tM tB P2 K2 U2 W1 N1 M1 K1 ln L (va_up F 0 FF) R M B tc fl SO SL CE mP mK mU at_ rM rB RP RK RB fb fto mW mN mM mQ MO MU) H := P_arr (G := G) (n := 60) (a := sc 0) (f := F 0) hP 20 FF rfl hF6
            have hD : va_D (fun q : Nat => s.heap.size ≤ q) (WL G ca ma rr sh sc RA SA R M B tc fl P K U tM tB P2 K2 U2 W1 N1 M1 K1 ln L (va_up F 0 FF) R M B tc fl SO SL CE mP mK mU at_ rM rB RP RK RB fb fto mW mN mM mQ MO MU) := sAll_D (is := [20]) (w := [(sc 0, aI G 60 (F 0))]) (w' := [(sc 0, aI G 60 FF)]) hD rfl rfl
            refine lv_aload_n hx hb dL_law_176 rfl (lv_at hl 2 rfl) ?_
            refine ldk (k := 1) C hS dL_law_177 dL_law_178 dL_law_179 dL_law_180 dL_law_181 (by decide) (by decide) ?_
            refine ldk (k := 2) C hS dL_law_182 dL_law_183 dL_law_184 dL_law_185 dL_law_186 (by decide) (by decide) ?_
            refine ldk (k := 3) C hS dL_law_187 dL_law_188 dL_law_189 dL_law_190 dL_law_191 (by decide) (by decide) ?_
            refine ldk (k := 4) C hS dL_law_192 dL_law_193 dL_law_194 dL_law_195 dL_law_196 (by decide) (by decide) ?_
            rw [e1, e3, e4]
            refine mkV (As := [.int (nI 0), .int (xs (i + 2)), .int (nI ia), .int (nI na)]) (rest := []) (ci := 4) (q0 := 0) hE h4 (cwV 4 hts gL_law_X4_town rfl rfl rfl (by decide +kernel) ⟨Nat.le_of_ble_eq_true rfl, Nat.le_of_ble_eq_true rfl⟩) hP hK hD hS (fun q h => h) [0, 10, 19, 20] (by decide) rfl rfl rfl rfl hl.1 rfl (Nat.le_of_ble_eq_true rfl) dL_law_197 hf1 (fun rv9 w9 x9 H locs hF9 hP hD hS => ?_)
            obtain ⟨rfl, rfl⟩ := hF9
            have hP : va_P G.1 vwCl (WL G ca ma rr sh sc RA SA R M B tc (nI 0) P K U tM tB P2 K2 U2 W1 N1 M1 K1 ln L (va_up F 0 FF) R M B tc fl SO SL CE mP mK mU at_ rM rB RP RK RB fb fto mW mN mM mQ MO MU) H := wl_P hP
            have hD : va_D (fun q : Nat => s.heap.size ≤ q) (WL G ca ma rr sh sc RA SA R M B tc (nI 0) P K U tM tB P2 K2 U2 W1 N1 M1 K1 ln L (va_up F 0 FF) R M B tc fl SO SL CE mP mK mU at_ rM rB RP RK RB fb fto mW mN mM mQ MO MU) := wl_D hD
            refine W.eq (g2 := F0 m 200 ls [.int ((-100) - (ffv (fun t => CE (60 * 0 + ia + t)) M9 na))]) rfl ?_
            refine lv_aload_n hx hb dL_law_200 rfl (lv_at hl 1 rfl) ?_
            refine ldk (k := 1) C hS dL_law_201 dL_law_202 dL_law_203 dL_law_204 dL_law_205 (by decide) (by decide) ?_
            refine ldk (k := 2) C hS dL_law_206 dL_law_207 dL_law_208 dL_law_209 dL_law_210 (by decide) (by decide) ?_
            refine ldk (k := 3) C hS dL_law_211 dL_law_212 dL_law_213 dL_law_214 dL_law_215 (by decide) (by decide) ?_
            refine ldk (k := 4) C hS dL_law_216 dL_law_217 dL_law_218 dL_law_219 dL_law_220 (by decide) (by decide) ?_
            rw [e1, e3, e4]
            refine weV (As := [.int (nI 0), .int (xs (i + 2)), .int (nI ia), .int (nI na)]) (rest := [.int ((-100) - (ffv (fun t => CE (60 * 0 + ia + t)) M9 na))]) (ci := 5) (q0 := 27) hE hc (cwV 4 hts gL_law_X5_town rfl rfl rfl (by decide +kernel) ⟨Nat.le_of_ble_eq_true rfl, Nat.le_of_ble_eq_true rfl⟩) hP hK hD hS [27, 28, 29, 30, 34, 35, 36] (by decide) rfl rfl rfl rfl hl.1 rfl (Nat.le_of_ble_eq_true rfl) dL_law_221 hf2 (fun rv9 w9 H locs hF9 hP hD hS => ?_)
            obtain ⟨at9, rM9, rB9, RP9, RK9, RB9, rfl, rfl⟩ := hF9
            have hP : va_P G.1 vwCl (WL G ca ma rr sh sc RA SA R M B tc (nI 0) P K U tM tB P2 K2 U2 W1 N1 M1 K1 ln L (va_up F 0 FF) R M B tc (nI 0) SO SL CE mP mK mU at9 rM9 rB9 RP9 RK9 RB9 fb fto mW mN mM mQ MO MU) H := hP
            have hD : va_D (fun q : Nat => s.heap.size ≤ q) (WL G ca ma rr sh sc RA SA R M B tc (nI 0) P K U tM tB P2 K2 U2 W1 N1 M1 K1 ln L (va_up F 0 FF) R M B tc (nI 0) SO SL CE mP mK mU at9 rM9 rB9 RP9 RK9 RB9 fb fto mW mN mM mQ MO MU) := hD
            refine W.eq (g2 := F0 m 224 ls [.int ((-100) - nI (ffP (fun t => CE (60 * 0 + ia + t)) M9 na)), .int ((-100) - (ffv (fun t => CE (60 * 0 + ia + t)) M9 na))]) rfl ?_
            refine lv_icmp_eq (tgt := 1274) hx hb dL_law_224 (by decide) (fun _ => ?_) (fun c9 => absurd (by rw [ffv_no c4]) c9)
            exact hk _ _ _ _ _ _ _ _ _ _ _ _ _ _ _ _ _ _ _ _ _ _ _ _ _ _ _ _ _ _ _ _ _ _ _ _ _ _ _ _ H locs (cells + 1) (slots + 5) ⟨hT, hRr, hrl⟩ hP hD hS (by omega) (by omega)
          ·
            have hP : va_P G.1 vwCl (WL G ca ma rr sh sc RA SA R M B tc fl P K U tM tB P2 K2 U2 W1 N1 M1 K1 ln L (va_up F 1 FF) R M B tc fl SO SL CE mP mK mU at_ rM rB RP RK RB fb fto mW mN mM mQ MO MU) H := P_arr (G := G) (n := 60) (a := sc 1) (f := F 1) hP 22 FF rfl hF6
            have hD : va_D (fun q : Nat => s.heap.size ≤ q) (WL G ca ma rr sh sc RA SA R M B tc fl P K U tM tB P2 K2 U2 W1 N1 M1 K1 ln L (va_up F 1 FF) R M B tc fl SO SL CE mP mK mU at_ rM rB RP RK RB fb fto mW mN mM mQ MO MU) := sAll_D (is := [22]) (w := [(sc 1, aI G 60 (F 1))]) (w' := [(sc 1, aI G 60 FF)]) hD rfl rfl
            refine lv_aload_n hx hb dL_law_176 rfl (lv_at hl 2 rfl) ?_
            refine ldk (k := 1) C hS dL_law_177 dL_law_178 dL_law_179 dL_law_180 dL_law_181 (by decide) (by decide) ?_
            refine ldk (k := 2) C hS dL_law_182 dL_law_183 dL_law_184 dL_law_185 dL_law_186 (by decide) (by decide) ?_
            refine ldk (k := 3) C hS dL_law_187 dL_law_188 dL_law_189 dL_law_190 dL_law_191 (by decide) (by decide) ?_
            refine ldk (k := 4) C hS dL_law_192 dL_law_193 dL_law_194 dL_law_195 dL_law_196 (by decide) (by decide) ?_
            rw [e1, e3, e4]
            refine mkV (As := [.int (nI 1), .int (xs (i + 2)), .int (nI ia), .int (nI na)]) (rest := []) (ci := 4) (q0 := 0) hE h4 (cwV 4 hts gL_law_X4_town rfl rfl rfl (by decide +kernel) ⟨Nat.le_of_ble_eq_true rfl, Nat.le_of_ble_eq_true rfl⟩) hP hK hD hS (fun q h => h) [0, 10, 21, 22] (by decide) rfl rfl rfl rfl hl.1 rfl (Nat.le_of_ble_eq_true rfl) dL_law_197 hf1 (fun rv9 w9 x9 H locs hF9 hP hD hS => ?_)
            obtain ⟨rfl, rfl⟩ := hF9
            have hP : va_P G.1 vwCl (WL G ca ma rr sh sc RA SA R M B tc (nI 0) P K U tM tB P2 K2 U2 W1 N1 M1 K1 ln L (va_up F 1 FF) R M B tc fl SO SL CE mP mK mU at_ rM rB RP RK RB fb fto mW mN mM mQ MO MU) H := wl_P hP
            have hD : va_D (fun q : Nat => s.heap.size ≤ q) (WL G ca ma rr sh sc RA SA R M B tc (nI 0) P K U tM tB P2 K2 U2 W1 N1 M1 K1 ln L (va_up F 1 FF) R M B tc fl SO SL CE mP mK mU at_ rM rB RP RK RB fb fto mW mN mM mQ MO MU) := wl_D hD
            refine W.eq (g2 := F0 m 200 ls [.int ((-100) - (ffv (fun t => CE (60 * 1 + ia + t)) M9 na))]) rfl ?_
            refine lv_aload_n hx hb dL_law_200 rfl (lv_at hl 1 rfl) ?_
            refine ldk (k := 1) C hS dL_law_201 dL_law_202 dL_law_203 dL_law_204 dL_law_205 (by decide) (by decide) ?_
            refine ldk (k := 2) C hS dL_law_206 dL_law_207 dL_law_208 dL_law_209 dL_law_210 (by decide) (by decide) ?_
            refine ldk (k := 3) C hS dL_law_211 dL_law_212 dL_law_213 dL_law_214 dL_law_215 (by decide) (by decide) ?_
            refine ldk (k := 4) C hS dL_law_216 dL_law_217 dL_law_218 dL_law_219 dL_law_220 (by decide) (by decide) ?_
            rw [e1, e3, e4]
            refine weV (As := [.int (nI 1), .int (xs (i + 2)), .int (nI ia), .int (nI na)]) (rest := [.int ((-100) - (ffv (fun t => CE (60 * 1 + ia + t)) M9 na))]) (ci := 5) (q0 := 27) hE hc (cwV 4 hts gL_law_X5_town rfl rfl rfl (by decide +kernel) ⟨Nat.le_of_ble_eq_true rfl, Nat.le_of_ble_eq_true rfl⟩) hP hK hD hS [27, 28, 29, 30, 34, 35, 36] (by decide) rfl rfl rfl rfl hl.1 rfl (Nat.le_of_ble_eq_true rfl) dL_law_221 hf2 (fun rv9 w9 H locs hF9 hP hD hS => ?_)
            obtain ⟨at9, rM9, rB9, RP9, RK9, RB9, rfl, rfl⟩ := hF9
            have hP : va_P G.1 vwCl (WL G ca ma rr sh sc RA SA R M B tc (nI 0) P K U tM tB P2 K2 U2 W1 N1 M1 K1 ln L (va_up F 1 FF) R M B tc (nI 0) SO SL CE mP mK mU at9 rM9 rB9 RP9 RK9 RB9 fb fto mW mN mM mQ MO MU) H := hP
            have hD : va_D (fun q : Nat => s.heap.size ≤ q) (WL G ca ma rr sh sc RA SA R M B tc (nI 0) P K U tM tB P2 K2 U2 W1 N1 M1 K1 ln L (va_up F 1 FF) R M B tc (nI 0) SO SL CE mP mK mU at9 rM9 rB9 RP9 RK9 RB9 fb fto mW mN mM mQ MO MU) := hD
            refine W.eq (g2 := F0 m 224 ls [.int ((-100) - nI (ffP (fun t => CE (60 * 1 + ia + t)) M9 na)), .int ((-100) - (ffv (fun t => CE (60 * 1 + ia + t)) M9 na))]) rfl ?_
            refine lv_icmp_eq (tgt := 1274) hx hb dL_law_224 (by decide) (fun _ => ?_) (fun c9 => absurd (by rw [ffv_no c4]) c9)
            exact hk _ _ _ _ _ _ _ _ _ _ _ _ _ _ _ _ _ _ _ _ _ _ _ _ _ _ _ _ _ _ _ _ _ _ _ _ _ _ _ _ H locs (cells + 1) (slots + 5) ⟨hT, hRr, hrl⟩ hP hD hS (by omega) (by omega)
          ·
            have hP : va_P G.1 vwCl (WL G ca ma rr sh sc RA SA R M B tc fl P K U tM tB P2 K2 U2 W1 N1 M1 K1 ln L (va_up F 2 FF) R M B tc fl SO SL CE mP mK mU at_ rM rB RP RK RB fb fto mW mN mM mQ MO MU) H := P_arr (G := G) (n := 60) (a := sc 2) (f := F 2) hP 24 FF rfl hF6
            have hD : va_D (fun q : Nat => s.heap.size ≤ q) (WL G ca ma rr sh sc RA SA R M B tc fl P K U tM tB P2 K2 U2 W1 N1 M1 K1 ln L (va_up F 2 FF) R M B tc fl SO SL CE mP mK mU at_ rM rB RP RK RB fb fto mW mN mM mQ MO MU) := sAll_D (is := [24]) (w := [(sc 2, aI G 60 (F 2))]) (w' := [(sc 2, aI G 60 FF)]) hD rfl rfl
            refine lv_aload_n hx hb dL_law_176 rfl (lv_at hl 2 rfl) ?_
            refine ldk (k := 1) C hS dL_law_177 dL_law_178 dL_law_179 dL_law_180 dL_law_181 (by decide) (by decide) ?_
            refine ldk (k := 2) C hS dL_law_182 dL_law_183 dL_law_184 dL_law_185 dL_law_186 (by decide) (by decide) ?_
            refine ldk (k := 3) C hS dL_law_187 dL_law_188 dL_law_189 dL_law_190 dL_law_191 (by decide) (by decide) ?_
            refine ldk (k := 4) C hS dL_law_192 dL_law_193 dL_law_194 dL_law_195 dL_law_196 (by decide) (by decide) ?_
            rw [e1, e3, e4]
            refine mkV (As := [.int (nI 2), .int (xs (i + 2)), .int (nI ia), .int (nI na)]) (rest := []) (ci := 4) (q0 := 0) hE h4 (cwV 4 hts gL_law_X4_town rfl rfl rfl (by decide +kernel) ⟨Nat.le_of_ble_eq_true rfl, Nat.le_of_ble_eq_true rfl⟩) hP hK hD hS (fun q h => h) [0, 10, 23, 24] (by decide) rfl rfl rfl rfl hl.1 rfl (Nat.le_of_ble_eq_true rfl) dL_law_197 hf1 (fun rv9 w9 x9 H locs hF9 hP hD hS => ?_)
            obtain ⟨rfl, rfl⟩ := hF9
            have hP : va_P G.1 vwCl (WL G ca ma rr sh sc RA SA R M B tc (nI 0) P K U tM tB P2 K2 U2 W1 N1 M1 K1 ln L (va_up F 2 FF) R M B tc fl SO SL CE mP mK mU at_ rM rB RP RK RB fb fto mW mN mM mQ MO MU) H := wl_P hP
            have hD : va_D (fun q : Nat => s.heap.size ≤ q) (WL G ca ma rr sh sc RA SA R M B tc (nI 0) P K U tM tB P2 K2 U2 W1 N1 M1 K1 ln L (va_up F 2 FF) R M B tc fl SO SL CE mP mK mU at_ rM rB RP RK RB fb fto mW mN mM mQ MO MU) := wl_D hD
            refine W.eq (g2 := F0 m 200 ls [.int ((-100) - (ffv (fun t => CE (60 * 2 + ia + t)) M9 na))]) rfl ?_
            refine lv_aload_n hx hb dL_law_200 rfl (lv_at hl 1 rfl) ?_
            refine ldk (k := 1) C hS dL_law_201 dL_law_202 dL_law_203 dL_law_204 dL_law_205 (by decide) (by decide) ?_
            refine ldk (k := 2) C hS dL_law_206 dL_law_207 dL_law_208 dL_law_209 dL_law_210 (by decide) (by decide) ?_
            refine ldk (k := 3) C hS dL_law_211 dL_law_212 dL_law_213 dL_law_214 dL_law_215 (by decide) (by decide) ?_
            refine ldk (k := 4) C hS dL_law_216 dL_law_217 dL_law_218 dL_law_219 dL_law_220 (by decide) (by decide) ?_
            rw [e1, e3, e4]
            refine weV (As := [.int (nI 2), .int (xs (i + 2)), .int (nI ia), .int (nI na)]) (rest := [.int ((-100) - (ffv (fun t => CE (60 * 2 + ia + t)) M9 na))]) (ci := 5) (q0 := 27) hE hc (cwV 4 hts gL_law_X5_town rfl rfl rfl (by decide +kernel) ⟨Nat.le_of_ble_eq_true rfl, Nat.le_of_ble_eq_true rfl⟩) hP hK hD hS [27, 28, 29, 30, 34, 35, 36] (by decide) rfl rfl rfl rfl hl.1 rfl (Nat.le_of_ble_eq_true rfl) dL_law_221 hf2 (fun rv9 w9 H locs hF9 hP hD hS => ?_)
            obtain ⟨at9, rM9, rB9, RP9, RK9, RB9, rfl, rfl⟩ := hF9
            have hP : va_P G.1 vwCl (WL G ca ma rr sh sc RA SA R M B tc (nI 0) P K U tM tB P2 K2 U2 W1 N1 M1 K1 ln L (va_up F 2 FF) R M B tc (nI 0) SO SL CE mP mK mU at9 rM9 rB9 RP9 RK9 RB9 fb fto mW mN mM mQ MO MU) H := hP
            have hD : va_D (fun q : Nat => s.heap.size ≤ q) (WL G ca ma rr sh sc RA SA R M B tc (nI 0) P K U tM tB P2 K2 U2 W1 N1 M1 K1 ln L (va_up F 2 FF) R M B tc (nI 0) SO SL CE mP mK mU at9 rM9 rB9 RP9 RK9 RB9 fb fto mW mN mM mQ MO MU) := hD
            refine W.eq (g2 := F0 m 224 ls [.int ((-100) - nI (ffP (fun t => CE (60 * 2 + ia + t)) M9 na)), .int ((-100) - (ffv (fun t => CE (60 * 2 + ia + t)) M9 na))]) rfl ?_
            refine lv_icmp_eq (tgt := 1274) hx hb dL_law_224 (by decide) (fun _ => ?_) (fun c9 => absurd (by rw [ffv_no c4]) c9)
            exact hk _ _ _ _ _ _ _ _ _ _ _ _ _ _ _ _ _ _ _ _ _ _ _ _ _ _ _ _ _ _ _ _ _ _ _ _ _ _ _ _ H locs (cells + 1) (slots + 5) ⟨hT, hRr, hrl⟩ hP hD hS (by omega) (by omega)
          ·
            have hP : va_P G.1 vwCl (WL G ca ma rr sh sc RA SA R M B tc fl P K U tM tB P2 K2 U2 W1 N1 M1 K1 ln L (va_up F 3 FF) R M B tc fl SO SL CE mP mK mU at_ rM rB RP RK RB fb fto mW mN mM mQ MO MU) H := P_arr (G := G) (n := 60) (a := sc 3) (f := F 3) hP 26 FF rfl hF6
            have hD : va_D (fun q : Nat => s.heap.size ≤ q) (WL G ca ma rr sh sc RA SA R M B tc fl P K U tM tB P2 K2 U2 W1 N1 M1 K1 ln L (va_up F 3 FF) R M B tc fl SO SL CE mP mK mU at_ rM rB RP RK RB fb fto mW mN mM mQ MO MU) := sAll_D (is := [26]) (w := [(sc 3, aI G 60 (F 3))]) (w' := [(sc 3, aI G 60 FF)]) hD rfl rfl
            refine lv_aload_n hx hb dL_law_176 rfl (lv_at hl 2 rfl) ?_
            refine ldk (k := 1) C hS dL_law_177 dL_law_178 dL_law_179 dL_law_180 dL_law_181 (by decide) (by decide) ?_
            refine ldk (k := 2) C hS dL_law_182 dL_law_183 dL_law_184 dL_law_185 dL_law_186 (by decide) (by decide) ?_
            refine ldk (k := 3) C hS dL_law_187 dL_law_188 dL_law_189 dL_law_190 dL_law_191 (by decide) (by decide) ?_
            refine ldk (k := 4) C hS dL_law_192 dL_law_193 dL_law_194 dL_law_195 dL_law_196 (by decide) (by decide) ?_
            rw [e1, e3, e4]
            refine mkV (As := [.int (nI 3), .int (xs (i + 2)), .int (nI ia), .int (nI na)]) (rest := []) (ci := 4) (q0 := 0) hE h4 (cwV 4 hts gL_law_X4_town rfl rfl rfl (by decide +kernel) ⟨Nat.le_of_ble_eq_true rfl, Nat.le_of_ble_eq_true rfl⟩) hP hK hD hS (fun q h => h) [0, 10, 25, 26] (by decide) rfl rfl rfl rfl hl.1 rfl (Nat.le_of_ble_eq_true rfl) dL_law_197 hf1 (fun rv9 w9 x9 H locs hF9 hP hD hS => ?_)
            obtain ⟨rfl, rfl⟩ := hF9
            have hP : va_P G.1 vwCl (WL G ca ma rr sh sc RA SA R M B tc (nI 0) P K U tM tB P2 K2 U2 W1 N1 M1 K1 ln L (va_up F 3 FF) R M B tc fl SO SL CE mP mK mU at_ rM rB RP RK RB fb fto mW mN mM mQ MO MU) H := wl_P hP
            have hD : va_D (fun q : Nat => s.heap.size ≤ q) (WL G ca ma rr sh sc RA SA R M B tc (nI 0) P K U tM tB P2 K2 U2 W1 N1 M1 K1 ln L (va_up F 3 FF) R M B tc fl SO SL CE mP mK mU at_ rM rB RP RK RB fb fto mW mN mM mQ MO MU) := wl_D hD
            refine W.eq (g2 := F0 m 200 ls [.int ((-100) - (ffv (fun t => CE (60 * 3 + ia + t)) M9 na))]) rfl ?_
            refine lv_aload_n hx hb dL_law_200 rfl (lv_at hl 1 rfl) ?_
            refine ldk (k := 1) C hS dL_law_201 dL_law_202 dL_law_203 dL_law_204 dL_law_205 (by decide) (by decide) ?_
            refine ldk (k := 2) C hS dL_law_206 dL_law_207 dL_law_208 dL_law_209 dL_law_210 (by decide) (by decide) ?_
            refine ldk (k := 3) C hS dL_law_211 dL_law_212 dL_law_213 dL_law_214 dL_law_215 (by decide) (by decide) ?_
            refine ldk (k := 4) C hS dL_law_216 dL_law_217 dL_law_218 dL_law_219 dL_law_220 (by decide) (by decide) ?_
            rw [e1, e3, e4]
            refine weV (As := [.int (nI 3), .int (xs (i + 2)), .int (nI ia), .int (nI na)]) (rest := [.int ((-100) - (ffv (fun t => CE (60 * 3 + ia + t)) M9 na))]) (ci := 5) (q0 := 27) hE hc (cwV 4 hts gL_law_X5_town rfl rfl rfl (by decide +kernel) ⟨Nat.le_of_ble_eq_true rfl, Nat.le_of_ble_eq_true rfl⟩) hP hK hD hS [27, 28, 29, 30, 34, 35, 36] (by decide) rfl rfl rfl rfl hl.1 rfl (Nat.le_of_ble_eq_true rfl) dL_law_221 hf2 (fun rv9 w9 H locs hF9 hP hD hS => ?_)
            obtain ⟨at9, rM9, rB9, RP9, RK9, RB9, rfl, rfl⟩ := hF9
            have hP : va_P G.1 vwCl (WL G ca ma rr sh sc RA SA R M B tc (nI 0) P K U tM tB P2 K2 U2 W1 N1 M1 K1 ln L (va_up F 3 FF) R M B tc (nI 0) SO SL CE mP mK mU at9 rM9 rB9 RP9 RK9 RB9 fb fto mW mN mM mQ MO MU) H := hP
            have hD : va_D (fun q : Nat => s.heap.size ≤ q) (WL G ca ma rr sh sc RA SA R M B tc (nI 0) P K U tM tB P2 K2 U2 W1 N1 M1 K1 ln L (va_up F 3 FF) R M B tc (nI 0) SO SL CE mP mK mU at9 rM9 rB9 RP9 RK9 RB9 fb fto mW mN mM mQ MO MU) := hD
            refine W.eq (g2 := F0 m 224 ls [.int ((-100) - nI (ffP (fun t => CE (60 * 3 + ia + t)) M9 na)), .int ((-100) - (ffv (fun t => CE (60 * 3 + ia + t)) M9 na))]) rfl ?_
            refine lv_icmp_eq (tgt := 1274) hx hb dL_law_224 (by decide) (fun _ => ?_) (fun c9 => absurd (by rw [ffv_no c4]) c9)
            exact hk _ _ _ _ _ _ _ _ _ _ _ _ _ _ _ _ _ _ _ _ _ _ _ _ _ _ _ _ _ _ _ _ _ _ _ _ _ _ _ _ H locs (cells + 1) (slots + 5) ⟨hT, hRr, hrl⟩ hP hD hS (by omega) (by omega)
      ·
        have h4 := kX4_townf l G (ca 0) (ca 1) (ca 5) (ca 9) (ca 10) R tc fl SA (sh j) (sc j) (ln j) (L j) j (xs (i + 2)) (xs (i + 3)) (xs (i + 4)) hj4 c2 (hSA j hj4) c3
        have hc := kX5_townf l G (ma 0) fl tc (ma 1) (ma 2) (ma 3) M B (ma 4) (ma 5) (ma 6) at_ rM rB (ma 7) (ma 8) (ma 9) fb fto R (ma 10) (ma 11) (ma 12) (ma 13) (ma 14) (ma 15) SO SL j L1 (xs (i + 2)) (xs (i + 3)) (xs (i + 4)) hj4 hL1b c2 (by rw [← efv]; exact c3)
        rw [← efv] at hc
        rcases (show j = 0 ∨ j = 1 ∨ j = 2 ∨ j = 3 by omega) with rfl | rfl | rfl | rfl
        ·
          refine lv_aload_n hx hb dL_law_176 rfl (lv_at hl 2 rfl) ?_
          refine ldk (k := 1) C hS dL_law_177 dL_law_178 dL_law_179 dL_law_180 dL_law_181 (by decide) (by decide) ?_
          refine ldk (k := 2) C hS dL_law_182 dL_law_183 dL_law_184 dL_law_185 dL_law_186 (by decide) (by decide) ?_
          refine ldk (k := 3) C hS dL_law_187 dL_law_188 dL_law_189 dL_law_190 dL_law_191 (by decide) (by decide) ?_
          refine ldk (k := 4) C hS dL_law_192 dL_law_193 dL_law_194 dL_law_195 dL_law_196 (by decide) (by decide) ?_
          rw [e1]
          refine wtV (As := [.int (nI 0), .int (xs (i + 2)), .int (xs (i + 3)), .int (xs (i + 4))]) (rest := []) (ci := 4) (q0 := 0) (W1 := WL G ca ma rr sh sc RA SA R M B tc (ft (-1) (ln 0) (L 0) (xs (i + 2)) (xs (i + 3)) (xs (i + 4))) P K U tM tB P2 K2 U2 W1 N1 M1 K1 ln L F R M B tc fl SO SL CE mP mK mU at_ rM rB RP RK RB fb fto mW mN mM mQ MO MU) hE h4 (cwV 4 hts gL_law_X4_town rfl rfl rfl (by decide +kernel) ⟨Nat.le_of_ble_eq_true rfl, Nat.le_of_ble_eq_true rfl⟩) hP hK hD hS [0, 10, 19] (by decide +kernel) rfl (Eq.trans (b := [ca 0, ca 10, sh 0]) rfl rfl) rfl rfl rfl rfl hl.1 rfl (Nat.le_of_ble_eq_true rfl) dL_law_197 hf0 (fun H locs hP hD hS => ?_)
          refine W.eq (g2 := F0 m 200 ls [.int ((-10) - (ft (-1) (ln 0) (L 0) (xs (i + 2)) (xs (i + 3)) (xs (i + 4))))]) rfl ?_
          refine lv_aload_n hx hb dL_law_200 rfl (lv_at hl 1 rfl) ?_
          refine ldk (k := 1) C hS dL_law_201 dL_law_202 dL_law_203 dL_law_204 dL_law_205 (by decide) (by decide) ?_
          refine ldk (k := 2) C hS dL_law_206 dL_law_207 dL_law_208 dL_law_209 dL_law_210 (by decide) (by decide) ?_
          refine ldk (k := 3) C hS dL_law_211 dL_law_212 dL_law_213 dL_law_214 dL_law_215 (by decide) (by decide) ?_
          refine ldk (k := 4) C hS dL_law_216 dL_law_217 dL_law_218 dL_law_219 dL_law_220 (by decide) (by decide) ?_
          rw [e1]
          refine wtV (As := [.int (nI 0), .int (xs (i + 2)), .int (xs (i + 3)), .int (xs (i + 4))]) (rest := [.int ((-10) - (ft (-1) (ln 0) (L 0) (xs (i + 2)) (xs (i + 3)) (xs (i + 4))))]) (ci := 5) (q0 := 27) (W1 := WL G ca ma rr sh sc RA SA R M B tc (ft (-1) (ln 0) (L 0) (xs (i + 2)) (xs (i + 3)) (xs (i + 4))) P K U tM tB P2 K2 U2 W1 N1 M1 K1 ln L F R M B tc (ft (-1) (ln 0) (L 0) (xs (i + 2)) (xs (i + 3)) (xs (i + 4))) SO SL CE mP mK mU at_ rM rB RP RK RB fb fto mW mN mM mQ MO MU) hE hc (cwV 4 hts gL_law_X5_town rfl rfl rfl (by decide +kernel) ⟨Nat.le_of_ble_eq_true rfl, Nat.le_of_ble_eq_true rfl⟩) hP hK hD hS [27, 28, 29] (by decide +kernel) rfl (Eq.trans (b := [ma 0, ma 1, ma 2]) rfl rfl) rfl rfl rfl rfl hl.1 rfl (Nat.le_of_ble_eq_true rfl) dL_law_221 hf0 (fun H locs hP hD hS => ?_)
          refine W.eq (g2 := F0 m 224 ls [.int ((-10) - (ft (-1) (ln 0) (L 0) (xs (i + 2)) (xs (i + 3)) (xs (i + 4)))), .int ((-10) - (ft (-1) (ln 0) (L 0) (xs (i + 2)) (xs (i + 3)) (xs (i + 4))))]) rfl ?_
          refine lv_icmp_eq (tgt := 1274) hx hb dL_law_224 (by decide) (fun _ => ?_) (fun c9 => absurd rfl c9)
          exact hk _ _ _ _ _ _ _ _ _ _ _ _ _ _ _ _ _ _ _ _ _ _ _ _ _ _ _ _ _ _ _ _ _ _ _ _ _ _ _ _ H locs cells slots hr hP hD hS (by omega) (by omega)
        ·
          refine lv_aload_n hx hb dL_law_176 rfl (lv_at hl 2 rfl) ?_
          refine ldk (k := 1) C hS dL_law_177 dL_law_178 dL_law_179 dL_law_180 dL_law_181 (by decide) (by decide) ?_
          refine ldk (k := 2) C hS dL_law_182 dL_law_183 dL_law_184 dL_law_185 dL_law_186 (by decide) (by decide) ?_
          refine ldk (k := 3) C hS dL_law_187 dL_law_188 dL_law_189 dL_law_190 dL_law_191 (by decide) (by decide) ?_
          refine ldk (k := 4) C hS dL_law_192 dL_law_193 dL_law_194 dL_law_195 dL_law_196 (by decide) (by decide) ?_
          rw [e1]
          refine wtV (As := [.int (nI 1), .int (xs (i + 2)), .int (xs (i + 3)), .int (xs (i + 4))]) (rest := []) (ci := 4) (q0 := 0) (W1 := WL G ca ma rr sh sc RA SA R M B tc (ft (-1) (ln 1) (L 1) (xs (i + 2)) (xs (i + 3)) (xs (i + 4))) P K U tM tB P2 K2 U2 W1 N1 M1 K1 ln L F R M B tc fl SO SL CE mP mK mU at_ rM rB RP RK RB fb fto mW mN mM mQ MO MU) hE h4 (cwV 4 hts gL_law_X4_town rfl rfl rfl (by decide +kernel) ⟨Nat.le_of_ble_eq_true rfl, Nat.le_of_ble_eq_true rfl⟩) hP hK hD hS [0, 10, 21] (by decide +kernel) rfl (Eq.trans (b := [ca 0, ca 10, sh 1]) rfl rfl) rfl rfl rfl rfl hl.1 rfl (Nat.le_of_ble_eq_true rfl) dL_law_197 hf0 (fun H locs hP hD hS => ?_)
          refine W.eq (g2 := F0 m 200 ls [.int ((-10) - (ft (-1) (ln 1) (L 1) (xs (i + 2)) (xs (i + 3)) (xs (i + 4))))]) rfl ?_
          refine lv_aload_n hx hb dL_law_200 rfl (lv_at hl 1 rfl) ?_
          refine ldk (k := 1) C hS dL_law_201 dL_law_202 dL_law_203 dL_law_204 dL_law_205 (by decide) (by decide) ?_
          refine ldk (k := 2) C hS dL_law_206 dL_law_207 dL_law_208 dL_law_209 dL_law_210 (by decide) (by decide) ?_
          refine ldk (k := 3) C hS dL_law_211 dL_law_212 dL_law_213 dL_law_214 dL_law_215 (by decide) (by decide) ?_
          refine ldk (k := 4) C hS dL_law_216 dL_law_217 dL_law_218 dL_law_219 dL_law_220 (by decide) (by decide) ?_
          rw [e1]
          refine wtV (As := [.int (nI 1), .int (xs (i + 2)), .int (xs (i + 3)), .int (xs (i + 4))]) (rest := [.int ((-10) - (ft (-1) (ln 1) (L 1) (xs (i + 2)) (xs (i + 3)) (xs (i + 4))))]) (ci := 5) (q0 := 27) (W1 := WL G ca ma rr sh sc RA SA R M B tc (ft (-1) (ln 1) (L 1) (xs (i + 2)) (xs (i + 3)) (xs (i + 4))) P K U tM tB P2 K2 U2 W1 N1 M1 K1 ln L F R M B tc (ft (-1) (ln 1) (L 1) (xs (i + 2)) (xs (i + 3)) (xs (i + 4))) SO SL CE mP mK mU at_ rM rB RP RK RB fb fto mW mN mM mQ MO MU) hE hc (cwV 4 hts gL_law_X5_town rfl rfl rfl (by decide +kernel) ⟨Nat.le_of_ble_eq_true rfl, Nat.le_of_ble_eq_true rfl⟩) hP hK hD hS [27, 28, 29] (by decide +kernel) rfl (Eq.trans (b := [ma 0, ma 1, ma 2]) rfl rfl) rfl rfl rfl rfl hl.1 rfl (Nat.le_of_ble_eq_true rfl) dL_law_221 hf0 (fun H locs hP hD hS => ?_)
          refine W.eq (g2 := F0 m 224 ls [.int ((-10) - (ft (-1) (ln 1) (L 1) (xs (i + 2)) (xs (i + 3)) (xs (i + 4)))), .int ((-10) - (ft (-1) (ln 1) (L 1) (xs (i + 2)) (xs (i + 3)) (xs (i + 4))))]) rfl ?_
          refine lv_icmp_eq (tgt := 1274) hx hb dL_law_224 (by decide) (fun _ => ?_) (fun c9 => absurd rfl c9)
          exact hk _ _ _ _ _ _ _ _ _ _ _ _ _ _ _ _ _ _ _ _ _ _ _ _ _ _ _ _ _ _ _ _ _ _ _ _ _ _ _ _ H locs cells slots hr hP hD hS (by omega) (by omega)
        ·
          refine lv_aload_n hx hb dL_law_176 rfl (lv_at hl 2 rfl) ?_
          refine ldk (k := 1) C hS dL_law_177 dL_law_178 dL_law_179 dL_law_180 dL_law_181 (by decide) (by decide) ?_
          refine ldk (k := 2) C hS dL_law_182 dL_law_183 dL_law_184 dL_law_185 dL_law_186 (by decide) (by decide) ?_
          refine ldk (k := 3) C hS dL_law_187 dL_law_188 dL_law_189 dL_law_190 dL_law_191 (by decide) (by decide) ?_
          refine ldk (k := 4) C hS dL_law_192 dL_law_193 dL_law_194 dL_law_195 dL_law_196 (by decide) (by decide) ?_
          rw [e1]
          refine wtV (As := [.int (nI 2), .int (xs (i + 2)), .int (xs (i + 3)), .int (xs (i + 4))]) (rest := []) (ci := 4) (q0 := 0) (W1 := WL G ca ma rr sh sc RA SA R M B tc (ft (-1) (ln 2) (L 2) (xs (i + 2)) (xs (i + 3)) (xs (i + 4))) P K U tM tB P2 K2 U2 W1 N1 M1 K1 ln L F R M B tc fl SO SL CE mP mK mU at_ rM rB RP RK RB fb fto mW mN mM mQ MO MU) hE h4 (cwV 4 hts gL_law_X4_town rfl rfl rfl (by decide +kernel) ⟨Nat.le_of_ble_eq_true rfl, Nat.le_of_ble_eq_true rfl⟩) hP hK hD hS [0, 10, 23] (by decide +kernel) rfl (Eq.trans (b := [ca 0, ca 10, sh 2]) rfl rfl) rfl rfl rfl rfl hl.1 rfl (Nat.le_of_ble_eq_true rfl) dL_law_197 hf0 (fun H locs hP hD hS => ?_)
          refine W.eq (g2 := F0 m 200 ls [.int ((-10) - (ft (-1) (ln 2) (L 2) (xs (i + 2)) (xs (i + 3)) (xs (i + 4))))]) rfl ?_
          refine lv_aload_n hx hb dL_law_200 rfl (lv_at hl 1 rfl) ?_
          refine ldk (k := 1) C hS dL_law_201 dL_law_202 dL_law_203 dL_law_204 dL_law_205 (by decide) (by decide) ?_
          refine ldk (k := 2) C hS dL_law_206 dL_law_207 dL_law_208 dL_law_209 dL_law_210 (by decide) (by decide) ?_
          refine ldk (k := 3) C hS dL_law_211 dL_law_212 dL_law_213 dL_law_214 dL_law_215 (by decide) (by decide) ?_
          refine ldk (k := 4) C hS dL_law_216 dL_law_217 dL_law_218 dL_law_219 dL_law_220 (by decide) (by decide) ?_
          rw [e1]
          refine wtV (As := [.int (nI 2), .int (xs (i + 2)), .int (xs (i + 3)), .int (xs (i + 4))]) (rest := [.int ((-10) - (ft (-1) (ln 2) (L 2) (xs (i + 2)) (xs (i + 3)) (xs (i + 4))))]) (ci := 5) (q0 := 27) (W1 := WL G ca ma rr sh sc RA SA R M B tc (ft (-1) (ln 2) (L 2) (xs (i + 2)) (xs (i + 3)) (xs (i + 4))) P K U tM tB P2 K2 U2 W1 N1 M1 K1 ln L F R M B tc (ft (-1) (ln 2) (L 2) (xs (i + 2)) (xs (i + 3)) (xs (i + 4))) SO SL CE mP mK mU at_ rM rB RP RK RB fb fto mW mN mM mQ MO MU) hE hc (cwV 4 hts gL_law_X5_town rfl rfl rfl (by decide +kernel) ⟨Nat.le_of_ble_eq_true rfl, Nat.le_of_ble_eq_true rfl⟩) hP hK hD hS [27, 28, 29] (by decide +kernel) rfl (Eq.trans (b := [ma 0, ma 1, ma 2]) rfl rfl) rfl rfl rfl rfl hl.1 rfl (Nat.le_of_ble_eq_true rfl) dL_law_221 hf0 (fun H locs hP hD hS => ?_)
          refine W.eq (g2 := F0 m 224 ls [.int ((-10) - (ft (-1) (ln 2) (L 2) (xs (i + 2)) (xs (i + 3)) (xs (i + 4)))), .int ((-10) - (ft (-1) (ln 2) (L 2) (xs (i + 2)) (xs (i + 3)) (xs (i + 4))))]) rfl ?_
          refine lv_icmp_eq (tgt := 1274) hx hb dL_law_224 (by decide) (fun _ => ?_) (fun c9 => absurd rfl c9)
          exact hk _ _ _ _ _ _ _ _ _ _ _ _ _ _ _ _ _ _ _ _ _ _ _ _ _ _ _ _ _ _ _ _ _ _ _ _ _ _ _ _ H locs cells slots hr hP hD hS (by omega) (by omega)
        ·
          refine lv_aload_n hx hb dL_law_176 rfl (lv_at hl 2 rfl) ?_
          refine ldk (k := 1) C hS dL_law_177 dL_law_178 dL_law_179 dL_law_180 dL_law_181 (by decide) (by decide) ?_
          refine ldk (k := 2) C hS dL_law_182 dL_law_183 dL_law_184 dL_law_185 dL_law_186 (by decide) (by decide) ?_
          refine ldk (k := 3) C hS dL_law_187 dL_law_188 dL_law_189 dL_law_190 dL_law_191 (by decide) (by decide) ?_
          refine ldk (k := 4) C hS dL_law_192 dL_law_193 dL_law_194 dL_law_195 dL_law_196 (by decide) (by decide) ?_
          rw [e1]
          refine wtV (As := [.int (nI 3), .int (xs (i + 2)), .int (xs (i + 3)), .int (xs (i + 4))]) (rest := []) (ci := 4) (q0 := 0) (W1 := WL G ca ma rr sh sc RA SA R M B tc (ft (-1) (ln 3) (L 3) (xs (i + 2)) (xs (i + 3)) (xs (i + 4))) P K U tM tB P2 K2 U2 W1 N1 M1 K1 ln L F R M B tc fl SO SL CE mP mK mU at_ rM rB RP RK RB fb fto mW mN mM mQ MO MU) hE h4 (cwV 4 hts gL_law_X4_town rfl rfl rfl (by decide +kernel) ⟨Nat.le_of_ble_eq_true rfl, Nat.le_of_ble_eq_true rfl⟩) hP hK hD hS [0, 10, 25] (by decide +kernel) rfl (Eq.trans (b := [ca 0, ca 10, sh 3]) rfl rfl) rfl rfl rfl rfl hl.1 rfl (Nat.le_of_ble_eq_true rfl) dL_law_197 hf0 (fun H locs hP hD hS => ?_)
          refine W.eq (g2 := F0 m 200 ls [.int ((-10) - (ft (-1) (ln 3) (L 3) (xs (i + 2)) (xs (i + 3)) (xs (i + 4))))]) rfl ?_
          refine lv_aload_n hx hb dL_law_200 rfl (lv_at hl 1 rfl) ?_
          refine ldk (k := 1) C hS dL_law_201 dL_law_202 dL_law_203 dL_law_204 dL_law_205 (by decide) (by decide) ?_
          refine ldk (k := 2) C hS dL_law_206 dL_law_207 dL_law_208 dL_law_209 dL_law_210 (by decide) (by decide) ?_
          refine ldk (k := 3) C hS dL_law_211 dL_law_212 dL_law_213 dL_law_214 dL_law_215 (by decide) (by decide) ?_
          refine ldk (k := 4) C hS dL_law_216 dL_law_217 dL_law_218 dL_law_219 dL_law_220 (by decide) (by decide) ?_
          rw [e1]
          refine wtV (As := [.int (nI 3), .int (xs (i + 2)), .int (xs (i + 3)), .int (xs (i + 4))]) (rest := [.int ((-10) - (ft (-1) (ln 3) (L 3) (xs (i + 2)) (xs (i + 3)) (xs (i + 4))))]) (ci := 5) (q0 := 27) (W1 := WL G ca ma rr sh sc RA SA R M B tc (ft (-1) (ln 3) (L 3) (xs (i + 2)) (xs (i + 3)) (xs (i + 4))) P K U tM tB P2 K2 U2 W1 N1 M1 K1 ln L F R M B tc (ft (-1) (ln 3) (L 3) (xs (i + 2)) (xs (i + 3)) (xs (i + 4))) SO SL CE mP mK mU at_ rM rB RP RK RB fb fto mW mN mM mQ MO MU) hE hc (cwV 4 hts gL_law_X5_town rfl rfl rfl (by decide +kernel) ⟨Nat.le_of_ble_eq_true rfl, Nat.le_of_ble_eq_true rfl⟩) hP hK hD hS [27, 28, 29] (by decide +kernel) rfl (Eq.trans (b := [ma 0, ma 1, ma 2]) rfl rfl) rfl rfl rfl rfl hl.1 rfl (Nat.le_of_ble_eq_true rfl) dL_law_221 hf0 (fun H locs hP hD hS => ?_)
          refine W.eq (g2 := F0 m 224 ls [.int ((-10) - (ft (-1) (ln 3) (L 3) (xs (i + 2)) (xs (i + 3)) (xs (i + 4)))), .int ((-10) - (ft (-1) (ln 3) (L 3) (xs (i + 2)) (xs (i + 3)) (xs (i + 4))))]) rfl ?_
          refine lv_icmp_eq (tgt := 1274) hx hb dL_law_224 (by decide) (fun _ => ?_) (fun c9 => absurd rfl c9)
          exact hk _ _ _ _ _ _ _ _ _ _ _ _ _ _ _ _ _ _ _ _ _ _ _ _ _ _ _ _ _ _ _ _ _ _ _ _ _ _ _ _ H locs cells slots hr hP hD hS (by omega) (by omega)
    ·
      refine lv_aload_n hx hb dL_law_176 rfl (lv_at hl 2 rfl) ?_
      refine ldk (k := 1) C hS dL_law_177 dL_law_178 dL_law_179 dL_law_180 dL_law_181 (by decide) (by decide) ?_
      refine ldk (k := 2) C hS dL_law_182 dL_law_183 dL_law_184 dL_law_185 dL_law_186 (by decide) (by decide) ?_
      refine ldk (k := 3) C hS dL_law_187 dL_law_188 dL_law_189 dL_law_190 dL_law_191 (by decide) (by decide) ?_
      refine ldk (k := 4) C hS dL_law_192 dL_law_193 dL_law_194 dL_law_195 dL_law_196 (by decide) (by decide) ?_
      rw [e1]
      refine wtV (As := [.int (nI j), .int (xs (i + 2)), .int (xs (i + 3)), .int (xs (i + 4))]) (rest := []) (ci := 4) (q0 := 0) (W1 := WL G ca ma rr sh sc RA SA R M B tc (nI 0) P K U tM tB P2 K2 U2 W1 N1 M1 K1 ln L F R M B tc fl SO SL CE mP mK mU at_ rM rB RP RK RB fb fto mW mN mM mQ MO MU) hE (kX4_townr2 l G (ca 0) (ca 1) (ca 5) (ca 9) (ca 10) R tc fl j (xs (i + 2)) (xs (i + 3)) (xs (i + 4)) hj4 c2) (cwV 4 hts gL_law_X4_town rfl rfl rfl (by decide +kernel) ⟨Nat.le_of_ble_eq_true rfl, Nat.le_of_ble_eq_true rfl⟩) hP hK hD hS [0] (by decide +kernel) rfl (Eq.trans (b := [ca 0]) rfl rfl) rfl rfl rfl rfl hl.1 rfl (Nat.le_of_ble_eq_true rfl) dL_law_197 hf0 (fun H locs hP hD hS => ?_)
      refine W.eq (g2 := F0 m 200 ls [.int (-2)]) rfl ?_
      refine lv_aload_n hx hb dL_law_200 rfl (lv_at hl 1 rfl) ?_
      refine ldk (k := 1) C hS dL_law_201 dL_law_202 dL_law_203 dL_law_204 dL_law_205 (by decide) (by decide) ?_
      refine ldk (k := 2) C hS dL_law_206 dL_law_207 dL_law_208 dL_law_209 dL_law_210 (by decide) (by decide) ?_
      refine ldk (k := 3) C hS dL_law_211 dL_law_212 dL_law_213 dL_law_214 dL_law_215 (by decide) (by decide) ?_
      refine ldk (k := 4) C hS dL_law_216 dL_law_217 dL_law_218 dL_law_219 dL_law_220 (by decide) (by decide) ?_
      rw [e1]
      refine wtV (As := [.int (nI j), .int (xs (i + 2)), .int (xs (i + 3)), .int (xs (i + 4))]) (rest := [.int (-2)]) (ci := 5) (q0 := 27) (W1 := WL G ca ma rr sh sc RA SA R M B tc (nI 0) P K U tM tB P2 K2 U2 W1 N1 M1 K1 ln L F R M B tc (nI 0) SO SL CE mP mK mU at_ rM rB RP RK RB fb fto mW mN mM mQ MO MU) hE (kX5_townr2 l G (ma 0) fl tc (ma 1) (ma 2) (ma 3) M B (ma 4) (ma 5) (ma 6) at_ rM rB (ma 7) (ma 8) (ma 9) fb fto R (ma 10) (ma 11) (ma 12) (ma 13) (ma 14) (ma 15) j (xs (i + 2)) (xs (i + 3)) (xs (i + 4)) hj4 c2) (cwV 4 hts gL_law_X5_town rfl rfl rfl (by decide +kernel) ⟨Nat.le_of_ble_eq_true rfl, Nat.le_of_ble_eq_true rfl⟩) hP hK hD hS [27] (by decide +kernel) rfl (Eq.trans (b := [ma 0]) rfl rfl) rfl rfl rfl rfl hl.1 rfl (Nat.le_of_ble_eq_true rfl) dL_law_221 hf0 (fun H locs hP hD hS => ?_)
      refine W.eq (g2 := F0 m 224 ls [.int (-2), .int (-2)]) rfl ?_
      refine lv_icmp_eq (tgt := 1274) hx hb dL_law_224 (by decide) (fun _ => ?_) (fun c9 => absurd rfl c9)
      exact hk _ _ _ _ _ _ _ _ _ _ _ _ _ _ _ _ _ _ _ _ _ _ _ _ _ _ _ _ _ _ _ _ _ _ _ _ _ _ _ _ H locs cells slots hr hP hD hS (by omega) (by omega)
  ·
    refine lv_aload_n hx hb dL_law_176 rfl (lv_at hl 2 rfl) ?_
    refine ldk (k := 1) C hS dL_law_177 dL_law_178 dL_law_179 dL_law_180 dL_law_181 (by decide) (by decide) ?_
    refine ldk (k := 2) C hS dL_law_182 dL_law_183 dL_law_184 dL_law_185 dL_law_186 (by decide) (by decide) ?_
    refine ldk (k := 3) C hS dL_law_187 dL_law_188 dL_law_189 dL_law_190 dL_law_191 (by decide) (by decide) ?_
    refine ldk (k := 4) C hS dL_law_192 dL_law_193 dL_law_194 dL_law_195 dL_law_196 (by decide) (by decide) ?_
    refine wtV (As := [.int (xs (i + 1)), .int (xs (i + 2)), .int (xs (i + 3)), .int (xs (i + 4))]) (rest := []) (ci := 4) (q0 := 0) (W1 := WL G ca ma rr sh sc RA SA R M B tc (nI 0) P K U tM tB P2 K2 U2 W1 N1 M1 K1 ln L F R M B tc fl SO SL CE mP mK mU at_ rM rB RP RK RB fb fto mW mN mM mQ MO MU) hE (kX4_townr1 l G (ca 0) (ca 1) (ca 5) (ca 9) (ca 10) R tc fl (xs (i + 1)) (xs (i + 2)) (xs (i + 3)) (xs (i + 4)) c1) (cwV 4 hts gL_law_X4_town rfl rfl rfl (by decide +kernel) ⟨Nat.le_of_ble_eq_true rfl, Nat.le_of_ble_eq_true rfl⟩) hP hK hD hS [0] (by decide +kernel) rfl (Eq.trans (b := [ca 0]) rfl rfl) rfl rfl rfl rfl hl.1 rfl (Nat.le_of_ble_eq_true rfl) dL_law_197 hf0 (fun H locs hP hD hS => ?_)
    refine W.eq (g2 := F0 m 200 ls [.int (-1)]) rfl ?_
    refine lv_aload_n hx hb dL_law_200 rfl (lv_at hl 1 rfl) ?_
    refine ldk (k := 1) C hS dL_law_201 dL_law_202 dL_law_203 dL_law_204 dL_law_205 (by decide) (by decide) ?_
    refine ldk (k := 2) C hS dL_law_206 dL_law_207 dL_law_208 dL_law_209 dL_law_210 (by decide) (by decide) ?_
    refine ldk (k := 3) C hS dL_law_211 dL_law_212 dL_law_213 dL_law_214 dL_law_215 (by decide) (by decide) ?_
    refine ldk (k := 4) C hS dL_law_216 dL_law_217 dL_law_218 dL_law_219 dL_law_220 (by decide) (by decide) ?_
    refine wtV (As := [.int (xs (i + 1)), .int (xs (i + 2)), .int (xs (i + 3)), .int (xs (i + 4))]) (rest := [.int (-1)]) (ci := 5) (q0 := 27) (W1 := WL G ca ma rr sh sc RA SA R M B tc (nI 0) P K U tM tB P2 K2 U2 W1 N1 M1 K1 ln L F R M B tc (nI 0) SO SL CE mP mK mU at_ rM rB RP RK RB fb fto mW mN mM mQ MO MU) hE (kX5_townr1 l G (ma 0) fl tc (ma 1) (ma 2) (ma 3) M B (ma 4) (ma 5) (ma 6) at_ rM rB (ma 7) (ma 8) (ma 9) fb fto R (ma 10) (ma 11) (ma 12) (ma 13) (ma 14) (ma 15) (xs (i + 1)) (xs (i + 2)) (xs (i + 3)) (xs (i + 4)) c1) (cwV 4 hts gL_law_X5_town rfl rfl rfl (by decide +kernel) ⟨Nat.le_of_ble_eq_true rfl, Nat.le_of_ble_eq_true rfl⟩) hP hK hD hS [27] (by decide +kernel) rfl (Eq.trans (b := [ma 0]) rfl rfl) rfl rfl rfl rfl hl.1 rfl (Nat.le_of_ble_eq_true rfl) dL_law_221 hf0 (fun H locs hP hD hS => ?_)
    refine W.eq (g2 := F0 m 224 ls [.int (-1), .int (-1)]) rfl ?_
    refine lv_icmp_eq (tgt := 1274) hx hb dL_law_224 (by decide) (fun _ => ?_) (fun c9 => absurd rfl c9)
    exact hk _ _ _ _ _ _ _ _ _ _ _ _ _ _ _ _ _ _ _ _ _ _ _ _ _ _ _ _ _ _ _ _ _ _ _ _ _ _ _ _ H locs cells slots hr hP hD hS (by omega) (by omega)
