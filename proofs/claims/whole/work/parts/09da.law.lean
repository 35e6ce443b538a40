/-! ===== the cases of the law: ofBoy, owes, owe, bind, next, where, knows, able, ring, home, never ===== -/
set_option maxHeartbeats 4000000 in
set_option maxRecDepth 100000 in
theorem cs_ofBoy {p : Program} {l : Launch} {e : Env} {s : State} {m : MethodId} {below : List Frame} {meth : Method} {c : Code} {Q : State → Prop} {b : Nat} {ls : Array Slot} {G : Gl} {ca ma rr sh sc : Nat → Nat} {RA SA : Nat → Option Nat} {L9 i : Nat} {xs : Nat → Int32} (C : LC p s m c b L9 i xs ls G ca ma rr sh RA SA) (hk : WW p l e s m below meth c Q b ls G ca ma rr sh sc RA SA 1274 (101 + i) (2005 + i)) : WW p l e s m below meth c Q b ls G ca ma rr sh sc RA SA 229 (100 + i) (2000 + i) := by
  intro R M B tc fl P K U tM tB P2 K2 U2 W1 N1 M1 K1 ln L F SO SL CE mP mK mU at_ rM rB RP RK RB fb fto mW mN mM mQ MO MU H locs cells slots hr hP hD hS hcb hsb
  obtain ⟨hE, hX, hbl, hK, hRA, hSA, hi, hL9, hl⟩ := id C
  obtain ⟨hx, hb, hml, hown, hts⟩ := id hE
  obtain ⟨hT, hRr, hSs⟩ := id hr
  obtain ⟨hM, hB, hMB, hp, hz, h9, hkk, hkd, hu, hub⟩ := id hT
  have hf0 : cells + 0 ≤ room_1.cells ∧ slots + 0 ≤ room_1.slots := ⟨by show cells + 0 ≤ 600000; omega, by show slots + 0 ≤ 7302250; omega⟩
  refine lv_aload_n hx hb dL_law_229 rfl (lv_at hl 2 rfl) ?_
  refine ldk (k := 1) C hS dL_law_230 dL_law_231 dL_law_232 dL_law_233 dL_law_234 (by decide) (by decide) ?_
  refine ldk (k := 2) C hS dL_law_235 dL_law_236 dL_law_237 dL_law_238 dL_law_239 (by decide) (by decide) ?_
  refine rdV (As := [.int (xs (i + 1)), .int (xs (i + 2))]) (rest := []) (ci := 4) (q0 := 0) hE (kX4_ofBoy l G (ca 0) (ca 1) (ca 5) (ca 9) (ca 10) R tc fl (ca 2) (ca 3) (ca 4) M B K U (xs (i + 1)) (xs (i + 2)) hB) (cwV 2 hts gL_law_X4_ofBoy rfl rfl rfl (by decide +kernel) ⟨Nat.le_of_ble_eq_true rfl, Nat.le_of_ble_eq_true rfl⟩) hP hK [0, 1, 3, 4] rfl rfl rfl rfl hl.1 rfl (Nat.le_of_ble_eq_true rfl) dL_law_240 hf0 ?_
  refine W.eq (g2 := F0 m 243 ls [.int (s_ofBoy B K U (xs (i + 1)) (xs (i + 2)))]) rfl ?_
  refine lv_aload_n hx hb dL_law_243 rfl (lv_at hl 1 rfl) ?_
  refine ldk (k := 1) C hS dL_law_244 dL_law_245 dL_law_246 dL_law_247 dL_law_248 (by decide) (by decide) ?_
  refine ldk (k := 2) C hS dL_law_249 dL_law_250 dL_law_251 dL_law_252 dL_law_253 (by decide) (by decide) ?_
  refine rdV (As := [.int (xs (i + 1)), .int (xs (i + 2))]) (rest := [.int (s_ofBoy B K U (xs (i + 1)) (xs (i + 2)))]) (ci := 5) (q0 := 27) hE (kX5_ofBoy l G (ma 0) fl tc (ma 1) (ma 2) (ma 3) M B (ma 4) (ma 5) (ma 6) at_ rM rB (ma 7) (ma 8) (ma 9) fb fto R (ma 10) (ma 11) (ma 12) (ma 13) (ma 14) (ma 15) mK mU (xs (i + 1)) (xs (i + 2)) hB hT.k) (cwV 2 hts gL_law_X5_ofBoy rfl rfl rfl (by decide +kernel) ⟨Nat.le_of_ble_eq_true rfl, Nat.le_of_ble_eq_true rfl⟩) hP hK [27, 32, 33] rfl rfl rfl rfl hl.1 rfl (Nat.le_of_ble_eq_true rfl) dL_law_254 hf0 ?_
  refine W.eq (g2 := F0 m 257 ls [.int (s_ofBoy B mK mU (xs (i + 1)) (xs (i + 2))), .int (s_ofBoy B K U (xs (i + 1)) (xs (i + 2)))]) rfl ?_
  refine lv_icmp_eq (tgt := 1274) hx hb dL_law_257 (by decide) (fun _ => ?_) (fun c9 => absurd (q_ofBoy hkk hu hB (xs (i + 1)) (xs (i + 2))) c9)
  exact hk _ _ _ _ _ _ _ _ _ _ _ _ _ _ _ _ _ _ _ _ _ _ _ _ _ _ _ _ _ _ _ _ _ _ _ _ _ _ _ _ H locs cells slots hr hP hD hS (by omega) (by omega)
set_option maxHeartbeats 4000000 in
set_option maxRecDepth 100000 in
theorem cs_owes {p : Program} {l : Launch} {e : Env} {s : State} {m : MethodId} {below : List Frame} {meth : Method} {c : Code} {Q : State → Prop} {b : Nat} {ls : Array Slot} {G : Gl} {ca ma rr sh sc : Nat → Nat} {RA SA : Nat → Option Nat} {L9 i : Nat} {xs : Nat → Int32} (C : LC p s m c b L9 i xs ls G ca ma rr sh RA SA) (hk : WW p l e s m below meth c Q b ls G ca ma rr sh sc RA SA 1274 (101 + i) (2005 + i)) : WW p l e s m below meth c Q b ls G ca ma rr sh sc RA SA 262 (100 + i) (2000 + i) := by
  intro R M B tc fl P K U tM tB P2 K2 U2 W1 N1 M1 K1 ln L F SO SL CE mP mK mU at_ rM rB RP RK RB fb fto mW mN mM mQ MO MU H locs cells slots hr hP hD hS hcb hsb
  obtain ⟨hE, hX, hbl, hK, hRA, hSA, hi, hL9, hl⟩ := id C
  obtain ⟨hx, hb, hml, hown, hts⟩ := id hE
  obtain ⟨hT, hRr, hSs⟩ := id hr
  obtain ⟨hM, hB, hMB, hp, hz, h9, hkk, hkd, hu, hub⟩ := id hT
  have hf0 : cells + 0 ≤ room_1.cells ∧ slots + 0 ≤ room_1.slots := ⟨by show cells + 0 ≤ 600000; omega, by show slots + 0 ≤ 7302250; omega⟩
  refine lv_aload_n hx hb dL_law_262 rfl (lv_at hl 2 rfl) ?_
  refine ldk (k := 1) C hS dL_law_263 dL_law_264 dL_law_265 dL_law_266 dL_law_267 (by decide) (by decide) ?_
  refine ldk (k := 2) C hS dL_law_268 dL_law_269 dL_law_270 dL_law_271 dL_law_272 (by decide) (by decide) ?_
  refine rdV (As := [.int (xs (i + 1)), .int (xs (i + 2))]) (rest := []) (ci := 4) (q0 := 0) hE (kX4_owes l G (ca 0) (ca 1) (ca 5) (ca 9) (ca 10) R tc fl (ca 2) (ca 3) (ca 4) M B P (xs (i + 1)) (xs (i + 2)) hM) (cwV 2 hts gL_law_X4_owes rfl rfl rfl (by decide +kernel) ⟨Nat.le_of_ble_eq_true rfl, Nat.le_of_ble_eq_true rfl⟩) hP hK [0, 1, 2] rfl rfl rfl rfl hl.1 rfl (Nat.le_of_ble_eq_true rfl) dL_law_273 hf0 ?_
  refine W.eq (g2 := F0 m 276 ls [.int (s_owes M P (xs (i + 1)) (xs (i + 2)))]) rfl ?_
  refine lv_aload_n hx hb dL_law_276 rfl (lv_at hl 1 rfl) ?_
  refine ldk (k := 1) C hS dL_law_277 dL_law_278 dL_law_279 dL_law_280 dL_law_281 (by decide) (by decide) ?_
  refine ldk (k := 2) C hS dL_law_282 dL_law_283 dL_law_284 dL_law_285 dL_law_286 (by decide) (by decide) ?_
  refine rdV (As := [.int (xs (i + 1)), .int (xs (i + 2))]) (rest := [.int (s_owes M P (xs (i + 1)) (xs (i + 2)))]) (ci := 5) (q0 := 27) hE (kX5_owes l G (ma 0) fl tc (ma 1) (ma 2) (ma 3) M B (ma 4) (ma 5) (ma 6) at_ rM rB (ma 7) (ma 8) (ma 9) fb fto R (ma 10) (ma 11) (ma 12) (ma 13) (ma 14) (ma 15) mP (xs (i + 1)) (xs (i + 2)) hM) (cwV 2 hts gL_law_X5_owes rfl rfl rfl (by decide +kernel) ⟨Nat.le_of_ble_eq_true rfl, Nat.le_of_ble_eq_true rfl⟩) hP hK [27, 31] rfl rfl rfl rfl hl.1 rfl (Nat.le_of_ble_eq_true rfl) dL_law_287 hf0 ?_
  refine W.eq (g2 := F0 m 290 ls [.int (s_owes M mP (xs (i + 1)) (xs (i + 2))), .int (s_owes M P (xs (i + 1)) (xs (i + 2)))]) rfl ?_
  refine lv_icmp_eq (tgt := 1274) hx hb dL_law_290 (by decide) (fun _ => ?_) (fun c9 => absurd (q_owes hp hM (xs (i + 1)) (xs (i + 2))) c9)
  exact hk _ _ _ _ _ _ _ _ _ _ _ _ _ _ _ _ _ _ _ _ _ _ _ _ _ _ _ _ _ _ _ _ _ _ _ _ _ _ _ _ H locs cells slots hr hP hD hS (by omega) (by omega)
set_option maxHeartbeats 4000000 in
set_option maxRecDepth 100000 in
theorem cs_owe {p : Program} {l : Launch} {e : Env} {s : State} {m : MethodId} {below : List Frame} {meth : Method} {c : Code} {Q : State → Prop} {b : Nat} {ls : Array Slot} {G : Gl} {ca ma rr sh sc : Nat → Nat} {RA SA : Nat → Option Nat} {L9 i : Nat} {xs : Nat → Int32} (C : LC p s m c b L9 i xs ls G ca ma rr sh RA SA) (hk : WW p l e s m below meth c Q b ls G ca ma rr sh sc RA SA 1274 (101 + i) (2005 + i)) : WW p l e s m below meth c Q b ls G ca ma rr sh sc RA SA 295 (100 + i) (2000 + i) := by
  intro R M B tc fl P K U tM tB P2 K2 U2 W1 N1 M1 K1 ln L F SO SL CE mP mK mU at_ rM rB RP RK RB fb fto mW mN mM mQ MO MU H locs cells slots hr hP hD hS hcb hsb
  obtain ⟨hE, hX, hbl, hK, hRA, hSA, hi, hL9, hl⟩ := id C
  obtain ⟨hx, hb, hml, hown, hts⟩ := id hE
  obtain ⟨hT, hRr, hSs⟩ := id hr
  obtain ⟨hM, hB, hMB, hp, hz, h9, hkk, hkd, hu, hub⟩ := id hT
  have hf0 : cells + 0 ≤ room_1.cells ∧ slots + 0 ≤ room_1.slots := ⟨by show cells + 0 ≤ 600000; omega, by show slots + 0 ≤ 7302250; omega⟩
  refine lv_aload_n hx hb dL_law_295 rfl (lv_at hl 2 rfl) ?_
  refine ldk (k := 1) C hS dL_law_296 dL_law_297 dL_law_298 dL_law_299 dL_law_300 (by decide) (by decide) ?_
  refine ldk (k := 2) C hS dL_law_301 dL_law_302 dL_law_303 dL_law_304 dL_law_305 (by decide) (by decide) ?_
  refine ldk (k := 3) C hS dL_law_306 dL_law_307 dL_law_308 dL_law_309 dL_law_310 (by decide) (by decide) ?_
  refine wtV (As := [.int (xs (i + 1)), .int (xs (i + 2)), .int (xs (i + 3))]) (rest := []) (ci := 4) (q0 := 0) (W1 := WL G ca ma rr sh sc RA SA R M B tc fl (w_owe M P (xs (i + 1)) (xs (i + 2)) (xs (i + 3))) K U tM tB P2 K2 U2 W1 N1 M1 K1 ln L F R M B tc fl SO SL CE mP mK mU at_ rM rB RP RK RB fb fto mW mN mM mQ MO MU) hE (kX4_owe l G (ca 0) (ca 1) (ca 5) (ca 9) (ca 10) R tc fl (ca 2) (ca 3) (ca 4) M B P (xs (i + 1)) (xs (i + 2)) (xs (i + 3)) hM) (cwV 3 hts gL_law_X4_owe rfl rfl rfl (by decide +kernel) ⟨Nat.le_of_ble_eq_true rfl, Nat.le_of_ble_eq_true rfl⟩) hP hK hD hS [0, 1, 2] (by decide +kernel) rfl (Eq.trans (b := [ca 0, ca 1, ca 2]) rfl rfl) rfl rfl rfl rfl hl.1 rfl (Nat.le_of_ble_eq_true rfl) dL_law_311 hf0 (fun H locs hP hD hS => ?_)
  refine W.eq (g2 := F0 m 314 ls [.int (s_owe M P (xs (i + 1)) (xs (i + 2)) (xs (i + 3)))]) rfl ?_
  refine lv_aload_n hx hb dL_law_314 rfl (lv_at hl 1 rfl) ?_
  refine ldk (k := 1) C hS dL_law_315 dL_law_316 dL_law_317 dL_law_318 dL_law_319 (by decide) (by decide) ?_
  refine ldk (k := 2) C hS dL_law_320 dL_law_321 dL_law_322 dL_law_323 dL_law_324 (by decide) (by decide) ?_
  refine ldk (k := 3) C hS dL_law_325 dL_law_326 dL_law_327 dL_law_328 dL_law_329 (by decide) (by decide) ?_
  refine wtV (As := [.int (xs (i + 1)), .int (xs (i + 2)), .int (xs (i + 3))]) (rest := [.int (s_owe M P (xs (i + 1)) (xs (i + 2)) (xs (i + 3)))]) (ci := 5) (q0 := 27) (W1 := WL G ca ma rr sh sc RA SA R M B tc fl (w_owe M P (xs (i + 1)) (xs (i + 2)) (xs (i + 3))) K U tM tB P2 K2 U2 W1 N1 M1 K1 ln L F R M B tc fl SO SL CE (w_owe M mP (xs (i + 1)) (xs (i + 2)) (xs (i + 3))) mK mU at_ rM rB RP RK RB fb fto mW mN mM mQ MO MU) hE (kX5_owe l G (ma 0) fl tc (ma 1) (ma 2) (ma 3) M B (ma 4) (ma 5) (ma 6) at_ rM rB (ma 7) (ma 8) (ma 9) fb fto R (ma 10) (ma 11) (ma 12) (ma 13) (ma 14) (ma 15) mP (xs (i + 1)) (xs (i + 2)) (xs (i + 3)) hM) (cwV 3 hts gL_law_X5_owe rfl rfl rfl (by decide +kernel) ⟨Nat.le_of_ble_eq_true rfl, Nat.le_of_ble_eq_true rfl⟩) hP hK hD hS [27, 31] (by decide +kernel) rfl (Eq.trans (b := [ma 0, ma 4]) rfl rfl) rfl rfl rfl rfl hl.1 rfl (Nat.le_of_ble_eq_true rfl) dL_law_330 hf0 (fun H locs hP hD hS => ?_)
  refine W.eq (g2 := F0 m 333 ls [.int (s_owe M mP (xs (i + 1)) (xs (i + 2)) (xs (i + 3))), .int (s_owe M P (xs (i + 1)) (xs (i + 2)) (xs (i + 3)))]) rfl ?_
  refine lv_icmp_eq (tgt := 1274) hx hb dL_law_333 (by decide) (fun _ => ?_) (fun c9 => absurd (q_owe hp hM (xs (i + 1)) (xs (i + 2)) (xs (i + 3))) c9)
  exact hk _ _ _ _ _ _ _ _ _ _ _ _ _ _ _ _ _ _ _ _ _ _ _ _ _ _ _ _ _ _ _ _ _ _ _ _ _ _ _ _ H locs cells slots ⟨k_owe hT _ _ _, hRr, hSs⟩ hP hD hS (by omega) (by omega)
set_option maxHeartbeats 4000000 in
set_option maxRecDepth 100000 in
theorem cs_bind {p : Program} {l : Launch} {e : Env} {s : State} {m : MethodId} {below : List Frame} {meth : Method} {c : Code} {Q : State → Prop} {b : Nat} {ls : Array Slot} {G : Gl} {ca ma rr sh sc : Nat → Nat} {RA SA : Nat → Option Nat} {L9 i : Nat} {xs : Nat → Int32} (C : LC p s m c b L9 i xs ls G ca ma rr sh RA SA) (hk : WW p l e s m below meth c Q b ls G ca ma rr sh sc RA SA 1274 (101 + i) (2005 + i)) : WW p l e s m below meth c Q b ls G ca ma rr sh sc RA SA 338 (100 + i) (2000 + i) := by
  intro R M B tc fl P K U tM tB P2 K2 U2 W1 N1 M1 K1 ln L F SO SL CE mP mK mU at_ rM rB RP RK RB fb fto mW mN mM mQ MO MU H locs cells slots hr hP hD hS hcb hsb
  obtain ⟨hE, hX, hbl, hK, hRA, hSA, hi, hL9, hl⟩ := id C
  obtain ⟨hx, hb, hml, hown, hts⟩ := id hE
  obtain ⟨hT, hRr, hSs⟩ := id hr
  obtain ⟨hM, hB, hMB, hp, hz, h9, hkk, hkd, hu, hub⟩ := id hT
  have hf0 : cells + 0 ≤ room_1.cells ∧ slots + 0 ≤ room_1.slots := ⟨by show cells + 0 ≤ 600000; omega, by show slots + 0 ≤ 7302250; omega⟩
  refine lv_aload_n hx hb dL_law_338 rfl (lv_at hl 2 rfl) ?_
  refine ldk (k := 1) C hS dL_law_339 dL_law_340 dL_law_341 dL_law_342 dL_law_343 (by decide) (by decide) ?_
  refine ldk (k := 2) C hS dL_law_344 dL_law_345 dL_law_346 dL_law_347 dL_law_348 (by decide) (by decide) ?_
  refine wtV (As := [.int (xs (i + 1)), .int (xs (i + 2))]) (rest := []) (ci := 4) (q0 := 0) (W1 := WL G ca ma rr sh sc RA SA R M B tc fl P K (w_bind B M U (xs (i + 1)) (xs (i + 2))) tM tB P2 K2 U2 W1 N1 M1 K1 ln L F R M B tc fl SO SL CE mP mK mU at_ rM rB RP RK RB fb fto mW mN mM mQ MO MU) hE (kX4_bind l G (ca 0) (ca 1) (ca 5) (ca 9) (ca 10) R tc fl (ca 2) (ca 3) (ca 4) M B U (xs (i + 1)) (xs (i + 2)) hM hB) (cwV 2 hts gL_law_X4_bind rfl rfl rfl (by decide +kernel) ⟨Nat.le_of_ble_eq_true rfl, Nat.le_of_ble_eq_true rfl⟩) hP hK hD hS [0, 1, 4] (by decide +kernel) rfl (Eq.trans (b := [ca 0, ca 1, ca 4]) rfl rfl) rfl rfl rfl rfl hl.1 rfl (Nat.le_of_ble_eq_true rfl) dL_law_349 hf0 (fun H locs hP hD hS => ?_)
  refine W.eq (g2 := F0 m 352 ls [.int (s_bind B M U (xs (i + 1)) (xs (i + 2)))]) rfl ?_
  refine lv_aload_n hx hb dL_law_352 rfl (lv_at hl 1 rfl) ?_
  refine ldk (k := 1) C hS dL_law_353 dL_law_354 dL_law_355 dL_law_356 dL_law_357 (by decide) (by decide) ?_
  refine ldk (k := 2) C hS dL_law_358 dL_law_359 dL_law_360 dL_law_361 dL_law_362 (by decide) (by decide) ?_
  refine wtV (As := [.int (xs (i + 1)), .int (xs (i + 2))]) (rest := [.int (s_bind B M U (xs (i + 1)) (xs (i + 2)))]) (ci := 5) (q0 := 27) (W1 := WL G ca ma rr sh sc RA SA R M B tc fl P K (w_bind B M U (xs (i + 1)) (xs (i + 2))) tM tB P2 K2 U2 W1 N1 M1 K1 ln L F R M B tc fl SO SL CE mP mK (w_bind B M mU (xs (i + 1)) (xs (i + 2))) at_ rM rB RP RK RB fb fto mW mN mM mQ MO MU) hE (kX5_bind l G (ma 0) fl tc (ma 1) (ma 2) (ma 3) M B (ma 4) (ma 5) (ma 6) at_ rM rB (ma 7) (ma 8) (ma 9) fb fto R (ma 10) (ma 11) (ma 12) (ma 13) (ma 14) (ma 15) mU (xs (i + 1)) (xs (i + 2)) hM hB) (cwV 2 hts gL_law_X5_bind rfl rfl rfl (by decide +kernel) ⟨Nat.le_of_ble_eq_true rfl, Nat.le_of_ble_eq_true rfl⟩) hP hK hD hS [27, 33] (by decide +kernel) rfl (Eq.trans (b := [ma 0, ma 6]) rfl rfl) rfl rfl rfl rfl hl.1 rfl (Nat.le_of_ble_eq_true rfl) dL_law_363 hf0 (fun H locs hP hD hS => ?_)
  refine W.eq (g2 := F0 m 366 ls [.int (s_bind B M mU (xs (i + 1)) (xs (i + 2))), .int (s_bind B M U (xs (i + 1)) (xs (i + 2)))]) rfl ?_
  refine lv_icmp_eq (tgt := 1274) hx hb dL_law_366 (by decide) (fun _ => ?_) (fun c9 => absurd (q_bind (M := M) hu hB (xs (i + 1)) (xs (i + 2))) c9)
  exact hk _ _ _ _ _ _ _ _ _ _ _ _ _ _ _ _ _ _ _ _ _ _ _ _ _ _ _ _ _ _ _ _ _ _ _ _ _ _ _ _ H locs cells slots ⟨k_bind hT _ _, hRr, hSs⟩ hP hD hS (by omega) (by omega)
set_option maxHeartbeats 4000000 in
set_option maxRecDepth 100000 in
theorem cs_next {p : Program} {l : Launch} {e : Env} {s : State} {m : MethodId} {below : List Frame} {meth : Method} {c : Code} {Q : State → Prop} {b : Nat} {ls : Array Slot} {G : Gl} {ca ma rr sh sc : Nat → Nat} {RA SA : Nat → Option Nat} {L9 i : Nat} {xs : Nat → Int32} (C : LC p s m c b L9 i xs ls G ca ma rr sh RA SA) (hk : WW p l e s m below meth c Q b ls G ca ma rr sh sc RA SA 1274 (101 + i) (2005 + i)) : WW p l e s m below meth c Q b ls G ca ma rr sh sc RA SA 371 (100 + i) (2000 + i) := by
  intro R M B tc fl P K U tM tB P2 K2 U2 W1 N1 M1 K1 ln L F SO SL CE mP mK mU at_ rM rB RP RK RB fb fto mW mN mM mQ MO MU H locs cells slots hr hP hD hS hcb hsb
  obtain ⟨hE, hX, hbl, hK, hRA, hSA, hi, hL9, hl⟩ := id C
  obtain ⟨hx, hb, hml, hown, hts⟩ := id hE
  obtain ⟨hT, hRr, hSs⟩ := id hr
  obtain ⟨hM, hB, hMB, hp, hz, h9, hkk, hkd, hu, hub⟩ := id hT
  have hf0 : cells + 0 ≤ room_1.cells ∧ slots + 0 ≤ room_1.slots := ⟨by show cells + 0 ≤ 600000; omega, by show slots + 0 ≤ 7302250; omega⟩
  refine lv_aload_n hx hb dL_law_371 rfl (lv_at hl 2 rfl) ?_
  refine ldk (k := 1) C hS dL_law_372 dL_law_373 dL_law_374 dL_law_375 dL_law_376 (by decide) (by decide) ?_
  refine rdV (As := [.int (xs (i + 1))]) (rest := []) (ci := 4) (q0 := 0) hE (kX4_next l G (ca 0) (ca 1) (ca 5) (ca 9) (ca 10) R tc fl (ca 2) (ca 3) (ca 4) M B P (xs (i + 1)) hM hz) (cwV 1 hts gL_law_X4_next rfl rfl rfl (by decide +kernel) ⟨Nat.le_of_ble_eq_true rfl, Nat.le_of_ble_eq_true rfl⟩) hP hK [0, 1, 2] rfl rfl rfl rfl hl.1 rfl (Nat.le_of_ble_eq_true rfl) dL_law_377 hf0 ?_
  refine W.eq (g2 := F0 m 380 ls [.int (s_next M P (xs (i + 1)))]) rfl ?_
  refine lv_aload_n hx hb dL_law_380 rfl (lv_at hl 1 rfl) ?_
  refine ldk (k := 1) C hS dL_law_381 dL_law_382 dL_law_383 dL_law_384 dL_law_385 (by decide) (by decide) ?_
  refine rdV (As := [.int (xs (i + 1))]) (rest := [.int (s_next M P (xs (i + 1)))]) (ci := 5) (q0 := 27) hE (kX5_next l G (ma 0) fl tc (ma 1) (ma 2) (ma 3) M B (ma 4) (ma 5) (ma 6) at_ rM rB (ma 7) (ma 8) (ma 9) fb fto R (ma 10) (ma 11) (ma 12) (ma 13) (ma 14) (ma 15) mP (xs (i + 1)) hM) (cwV 1 hts gL_law_X5_next rfl rfl rfl (by decide +kernel) ⟨Nat.le_of_ble_eq_true rfl, Nat.le_of_ble_eq_true rfl⟩) hP hK [27, 31] rfl rfl rfl rfl hl.1 rfl (Nat.le_of_ble_eq_true rfl) dL_law_386 hf0 ?_
  refine W.eq (g2 := F0 m 389 ls [.int (s_next M mP (xs (i + 1))), .int (s_next M P (xs (i + 1)))]) rfl ?_
  refine lv_icmp_eq (tgt := 1274) hx hb dL_law_389 (by decide) (fun _ => ?_) (fun c9 => absurd (q_next hp hM (xs (i + 1))) c9)
  exact hk _ _ _ _ _ _ _ _ _ _ _ _ _ _ _ _ _ _ _ _ _ _ _ _ _ _ _ _ _ _ _ _ _ _ _ _ _ _ _ _ H locs cells slots hr hP hD hS (by omega) (by omega)
set_option maxHeartbeats 4000000 in
set_option maxRecDepth 100000 in
theorem cs_where {p : Program} {l : Launch} {e : Env} {s : State} {m : MethodId} {below : List Frame} {meth : Method} {c : Code} {Q : State → Prop} {b : Nat} {ls : Array Slot} {G : Gl} {ca ma rr sh sc : Nat → Nat} {RA SA : Nat → Option Nat} {L9 i : Nat} {xs : Nat → Int32} (C : LC p s m c b L9 i xs ls G ca ma rr sh RA SA) (hk : WW p l e s m below meth c Q b ls G ca ma rr sh sc RA SA 1274 (101 + i) (2005 + i)) : WW p l e s m below meth c Q b ls G ca ma rr sh sc RA SA 394 (100 + i) (2000 + i) := by
  intro R M B tc fl P K U tM tB P2 K2 U2 W1 N1 M1 K1 ln L F SO SL CE mP mK mU at_ rM rB RP RK RB fb fto mW mN mM mQ MO MU H locs cells slots hr hP hD hS hcb hsb
  obtain ⟨hE, hX, hbl, hK, hRA, hSA, hi, hL9, hl⟩ := id C
  obtain ⟨hx, hb, hml, hown, hts⟩ := id hE
  obtain ⟨hT, hRr, hSs⟩ := id hr
  obtain ⟨hM, hB, hMB, hp, hz, h9, hkk, hkd, hu, hub⟩ := id hT
  have hf0 : cells + 0 ≤ room_1.cells ∧ slots + 0 ≤ room_1.slots := ⟨by show cells + 0 ≤ 600000; omega, by show slots + 0 ≤ 7302250; omega⟩
  refine lv_aload_n hx hb dL_law_394 rfl (lv_at hl 2 rfl) ?_
  refine ldk (k := 1) C hS dL_law_395 dL_law_396 dL_law_397 dL_law_398 dL_law_399 (by decide) (by decide) ?_
  refine ldk (k := 2) C hS dL_law_400 dL_law_401 dL_law_402 dL_law_403 dL_law_404 (by decide) (by decide) ?_
  refine rdV (As := [.int (xs (i + 1)), .int (xs (i + 2))]) (rest := []) (ci := 4) (q0 := 0) hE (kX4_where l G (ca 0) (ca 1) (ca 5) (ca 9) (ca 10) R tc fl (ca 2) (ca 3) (ca 4) M B P U (xs (i + 1)) (xs (i + 2)) hM hB hz hub) (cwV 2 hts gL_law_X4_where rfl rfl rfl (by decide +kernel) ⟨Nat.le_of_ble_eq_true rfl, Nat.le_of_ble_eq_true rfl⟩) hP hK [0, 1, 2, 4] rfl rfl rfl rfl hl.1 rfl (Nat.le_of_ble_eq_true rfl) dL_law_405 hf0 ?_
  refine W.eq (g2 := F0 m 408 ls [.int (s_where B M P U (xs (i + 1)) (xs (i + 2)))]) rfl ?_
  refine lv_aload_n hx hb dL_law_408 rfl (lv_at hl 1 rfl) ?_
  refine ldk (k := 1) C hS dL_law_409 dL_law_410 dL_law_411 dL_law_412 dL_law_413 (by decide) (by decide) ?_
  refine ldk (k := 2) C hS dL_law_414 dL_law_415 dL_law_416 dL_law_417 dL_law_418 (by decide) (by decide) ?_
  refine rdV (As := [.int (xs (i + 1)), .int (xs (i + 2))]) (rest := [.int (s_where B M P U (xs (i + 1)) (xs (i + 2)))]) (ci := 5) (q0 := 27) hE (kX5_where l G (ma 0) fl tc (ma 1) (ma 2) (ma 3) M B (ma 4) (ma 5) (ma 6) at_ rM rB (ma 7) (ma 8) (ma 9) fb fto R (ma 10) (ma 11) (ma 12) (ma 13) (ma 14) (ma 15) mP mU (xs (i + 1)) (xs (i + 2)) hM hB hT.u) (cwV 2 hts gL_law_X5_where rfl rfl rfl (by decide +kernel) ⟨Nat.le_of_ble_eq_true rfl, Nat.le_of_ble_eq_true rfl⟩) hP hK [27, 31, 33] rfl rfl rfl rfl hl.1 rfl (Nat.le_of_ble_eq_true rfl) dL_law_419 hf0 ?_
  refine W.eq (g2 := F0 m 422 ls [.int (s_where B M mP mU (xs (i + 1)) (xs (i + 2))), .int (s_where B M P U (xs (i + 1)) (xs (i + 2)))]) rfl ?_
  refine lv_icmp_eq (tgt := 1274) hx hb dL_law_422 (by decide) (fun _ => ?_) (fun c9 => absurd (q_where hp hu hM hB hub (xs (i + 1)) (xs (i + 2))) c9)
  exact hk _ _ _ _ _ _ _ _ _ _ _ _ _ _ _ _ _ _ _ _ _ _ _ _ _ _ _ _ _ _ _ _ _ _ _ _ _ _ _ _ H locs cells slots hr hP hD hS (by omega) (by omega)
set_option maxHeartbeats 4000000 in
set_option maxRecDepth 100000 in
theorem cs_knows {p : Program} {l : Launch} {e : Env} {s : State} {m : MethodId} {below : List Frame} {meth : Method} {c : Code} {Q : State → Prop} {b : Nat} {ls : Array Slot} {G : Gl} {ca ma rr sh sc : Nat → Nat} {RA SA : Nat → Option Nat} {L9 i : Nat} {xs : Nat → Int32} (C : LC p s m c b L9 i xs ls G ca ma rr sh RA SA) (hk : WW p l e s m below meth c Q b ls G ca ma rr sh sc RA SA 1274 (101 + i) (2005 + i)) : WW p l e s m below meth c Q b ls G ca ma rr sh sc RA SA 427 (100 + i) (2000 + i) := by
  intro R M B tc fl P K U tM tB P2 K2 U2 W1 N1 M1 K1 ln L F SO SL CE mP mK mU at_ rM rB RP RK RB fb fto mW mN mM mQ MO MU H locs cells slots hr hP hD hS hcb hsb
  obtain ⟨hE, hX, hbl, hK, hRA, hSA, hi, hL9, hl⟩ := id C
  obtain ⟨hx, hb, hml, hown, hts⟩ := id hE
  obtain ⟨hT, hRr, hSs⟩ := id hr
  obtain ⟨hM, hB, hMB, hp, hz, h9, hkk, hkd, hu, hub⟩ := id hT
  have hf0 : cells + 0 ≤ room_1.cells ∧ slots + 0 ≤ room_1.slots := ⟨by show cells + 0 ≤ 600000; omega, by show slots + 0 ≤ 7302250; omega⟩
  refine lv_aload_n hx hb dL_law_427 rfl (lv_at hl 2 rfl) ?_
  refine ldk (k := 1) C hS dL_law_428 dL_law_429 dL_law_430 dL_law_431 dL_law_432 (by decide) (by decide) ?_
  refine ldk (k := 2) C hS dL_law_433 dL_law_434 dL_law_435 dL_law_436 dL_law_437 (by decide) (by decide) ?_
  refine ldk (k := 3) C hS dL_law_438 dL_law_439 dL_law_440 dL_law_441 dL_law_442 (by decide) (by decide) ?_
  refine rdV (As := [.int (xs (i + 1)), .int (xs (i + 2)), .int (xs (i + 3))]) (rest := []) (ci := 4) (q0 := 0) hE (kX4_knows l G (ca 0) (ca 1) (ca 5) (ca 9) (ca 10) R tc fl (ca 2) (ca 3) (ca 4) M B P K U (xs (i + 1)) (xs (i + 2)) (xs (i + 3)) hM hB hz hub) (cwV 3 hts gL_law_X4_knows rfl rfl rfl (by decide +kernel) ⟨Nat.le_of_ble_eq_true rfl, Nat.le_of_ble_eq_true rfl⟩) hP hK [0, 1, 2, 3, 4] rfl rfl rfl rfl hl.1 rfl (Nat.le_of_ble_eq_true rfl) dL_law_443 hf0 ?_
  refine W.eq (g2 := F0 m 446 ls [.int (s_knows B M P K U (xs (i + 1)) (xs (i + 2)) (xs (i + 3)))]) rfl ?_
  refine lv_aload_n hx hb dL_law_446 rfl (lv_at hl 1 rfl) ?_
  refine ldk (k := 1) C hS dL_law_447 dL_law_448 dL_law_449 dL_law_450 dL_law_451 (by decide) (by decide) ?_
  refine ldk (k := 2) C hS dL_law_452 dL_law_453 dL_law_454 dL_law_455 dL_law_456 (by decide) (by decide) ?_
  refine ldk (k := 3) C hS dL_law_457 dL_law_458 dL_law_459 dL_law_460 dL_law_461 (by decide) (by decide) ?_
  refine rdV (As := [.int (xs (i + 1)), .int (xs (i + 2)), .int (xs (i + 3))]) (rest := [.int (s_knows B M P K U (xs (i + 1)) (xs (i + 2)) (xs (i + 3)))]) (ci := 5) (q0 := 27) hE (kX5_knows l G (ma 0) fl tc (ma 1) (ma 2) (ma 3) M B (ma 4) (ma 5) (ma 6) at_ rM rB (ma 7) (ma 8) (ma 9) fb fto R (ma 10) (ma 11) (ma 12) (ma 13) (ma 14) (ma 15) mP mK mU (xs (i + 1)) (xs (i + 2)) (xs (i + 3)) hM hB hT.u hT.k) (cwV 3 hts gL_law_X5_knows rfl rfl rfl (by decide +kernel) ⟨Nat.le_of_ble_eq_true rfl, Nat.le_of_ble_eq_true rfl⟩) hP hK [27, 31, 32, 33] rfl rfl rfl rfl hl.1 rfl (Nat.le_of_ble_eq_true rfl) dL_law_462 hf0 ?_
  refine W.eq (g2 := F0 m 465 ls [.int (s_knows B M mP mK mU (xs (i + 1)) (xs (i + 2)) (xs (i + 3))), .int (s_knows B M P K U (xs (i + 1)) (xs (i + 2)) (xs (i + 3)))]) rfl ?_
  refine lv_icmp_eq (tgt := 1274) hx hb dL_law_465 (by decide) (fun _ => ?_) (fun c9 => absurd (q_knows hp hkk hu hM hB hub (xs (i + 1)) (xs (i + 2)) (xs (i + 3))) c9)
  exact hk _ _ _ _ _ _ _ _ _ _ _ _ _ _ _ _ _ _ _ _ _ _ _ _ _ _ _ _ _ _ _ _ _ _ _ _ _ _ _ _ H locs cells slots hr hP hD hS (by omega) (by omega)
set_option maxHeartbeats 4000000 in
set_option maxRecDepth 100000 in
theorem cs_able {p : Program} {l : Launch} {e : Env} {s : State} {m : MethodId} {below : List Frame} {meth : Method} {c : Code} {Q : State → Prop} {b : Nat} {ls : Array Slot} {G : Gl} {ca ma rr sh sc : Nat → Nat} {RA SA : Nat → Option Nat} {L9 i : Nat} {xs : Nat → Int32} (C : LC p s m c b L9 i xs ls G ca ma rr sh RA SA) (hk : WW p l e s m below meth c Q b ls G ca ma rr sh sc RA SA 1274 (101 + i) (2005 + i)) : WW p l e s m below meth c Q b ls G ca ma rr sh sc RA SA 470 (100 + i) (2000 + i) := by
  intro R M B tc fl P K U tM tB P2 K2 U2 W1 N1 M1 K1 ln L F SO SL CE mP mK mU at_ rM rB RP RK RB fb fto mW mN mM mQ MO MU H locs cells slots hr hP hD hS hcb hsb
  obtain ⟨hE, hX, hbl, hK, hRA, hSA, hi, hL9, hl⟩ := id C
  obtain ⟨hx, hb, hml, hown, hts⟩ := id hE
  obtain ⟨hT, hRr, hSs⟩ := id hr
  obtain ⟨hM, hB, hMB, hp, hz, h9, hkk, hkd, hu, hub⟩ := id hT
  have hf0 : cells + 0 ≤ room_1.cells ∧ slots + 0 ≤ room_1.slots := ⟨by show cells + 0 ≤ 600000; omega, by show slots + 0 ≤ 7302250; omega⟩
  refine lv_aload_n hx hb dL_law_470 rfl (lv_at hl 2 rfl) ?_
  refine ldk (k := 1) C hS dL_law_471 dL_law_472 dL_law_473 dL_law_474 dL_law_475 (by decide) (by decide) ?_
  refine rdV (As := [.int (xs (i + 1))]) (rest := []) (ci := 4) (q0 := 0) hE (kX4_able l G (ca 0) (ca 1) (ca 5) (ca 9) (ca 10) R tc fl (ca 2) (ca 3) (ca 4) M B P K U (xs (i + 1)) hM hB hz hub) (cwV 1 hts gL_law_X4_able rfl rfl rfl (by decide +kernel) ⟨Nat.le_of_ble_eq_true rfl, Nat.le_of_ble_eq_true rfl⟩) hP hK [0, 1, 2, 3, 4] rfl rfl rfl rfl hl.1 rfl (Nat.le_of_ble_eq_true rfl) dL_law_476 hf0 ?_
  refine W.eq (g2 := F0 m 479 ls [.int (s_able B M P K U (xs (i + 1)))]) rfl ?_
  refine lv_aload_n hx hb dL_law_479 rfl (lv_at hl 1 rfl) ?_
  refine ldk (k := 1) C hS dL_law_480 dL_law_481 dL_law_482 dL_law_483 dL_law_484 (by decide) (by decide) ?_
  refine rdV (As := [.int (xs (i + 1))]) (rest := [.int (s_able B M P K U (xs (i + 1)))]) (ci := 5) (q0 := 27) hE (kX5_able l G (ma 0) fl tc (ma 1) (ma 2) (ma 3) M B (ma 4) (ma 5) (ma 6) at_ rM rB (ma 7) (ma 8) (ma 9) fb fto R (ma 10) (ma 11) (ma 12) (ma 13) (ma 14) (ma 15) mP mK mU (xs (i + 1)) hM hB hT.u hT.k) (cwV 1 hts gL_law_X5_able rfl rfl rfl (by decide +kernel) ⟨Nat.le_of_ble_eq_true rfl, Nat.le_of_ble_eq_true rfl⟩) hP hK [27, 31, 32, 33] rfl rfl rfl rfl hl.1 rfl (Nat.le_of_ble_eq_true rfl) dL_law_485 hf0 ?_
  refine W.eq (g2 := F0 m 488 ls [.int (s_able B M mP mK mU (xs (i + 1))), .int (s_able B M P K U (xs (i + 1)))]) rfl ?_
  refine lv_icmp_eq (tgt := 1274) hx hb dL_law_488 (by decide) (fun _ => ?_) (fun c9 => absurd (q_able hp hkk hu hM hub (xs (i + 1))) c9)
  exact hk _ _ _ _ _ _ _ _ _ _ _ _ _ _ _ _ _ _ _ _ _ _ _ _ _ _ _ _ _ _ _ _ _ _ _ _ _ _ _ _ H locs cells slots hr hP hD hS (by omega) (by omega)
set_option maxHeartbeats 4000000 in
set_option maxRecDepth 100000 in
theorem cs_ring {p : Program} {l : Launch} {e : Env} {s : State} {m : MethodId} {below : List Frame} {meth : Method} {c : Code} {Q : State → Prop} {b : Nat} {ls : Array Slot} {G : Gl} {ca ma rr sh sc : Nat → Nat} {RA SA : Nat → Option Nat} {L9 i : Nat} {xs : Nat → Int32} (C : LC p s m c b L9 i xs ls G ca ma rr sh RA SA) (hk : WW p l e s m below meth c Q b ls G ca ma rr sh sc RA SA 1274 (101 + i) (2005 + i)) : WW p l e s m below meth c Q b ls G ca ma rr sh sc RA SA 493 (100 + i) (2000 + i) := by
  intro R M B tc fl P K U tM tB P2 K2 U2 W1 N1 M1 K1 ln L F SO SL CE mP mK mU at_ rM rB RP RK RB fb fto mW mN mM mQ MO MU H locs cells slots hr hP hD hS hcb hsb
  obtain ⟨hE, hX, hbl, hK, hRA, hSA, hi, hL9, hl⟩ := id C
  obtain ⟨hx, hb, hml, hown, hts⟩ := id hE
  obtain ⟨hT, hRr, hSs⟩ := id hr
  obtain ⟨hM, hB, hMB, hp, hz, h9, hkk, hkd, hu, hub⟩ := id hT
  have hf0 : cells + 0 ≤ room_1.cells ∧ slots + 0 ≤ room_1.slots := ⟨by show cells + 0 ≤ 600000; omega, by show slots + 0 ≤ 7302250; omega⟩
  refine lv_aload_n hx hb dL_law_493 rfl (lv_at hl 2 rfl) ?_
  refine ldk (k := 1) C hS dL_law_494 dL_law_495 dL_law_496 dL_law_497 dL_law_498 (by decide) (by decide) ?_
  refine rdV (As := [.int (xs (i + 1))]) (rest := []) (ci := 4) (q0 := 0) hE (kX4_ring l G (ca 0) (ca 1) (ca 5) (ca 9) (ca 10) R tc fl (ca 2) (ca 3) (ca 4) M B P (xs (i + 1)) hM hz) (cwV 1 hts gL_law_X4_ring rfl rfl rfl (by decide +kernel) ⟨Nat.le_of_ble_eq_true rfl, Nat.le_of_ble_eq_true rfl⟩) hP hK [0, 1, 2] rfl rfl rfl rfl hl.1 rfl (Nat.le_of_ble_eq_true rfl) dL_law_499 hf0 ?_
  refine W.eq (g2 := F0 m 502 ls [.int (s_ring M P (xs (i + 1)))]) rfl ?_
  refine lv_aload_n hx hb dL_law_502 rfl (lv_at hl 1 rfl) ?_
  refine ldk (k := 1) C hS dL_law_503 dL_law_504 dL_law_505 dL_law_506 dL_law_507 (by decide) (by decide) ?_
  refine rdV (As := [.int (xs (i + 1))]) (rest := [.int (s_ring M P (xs (i + 1)))]) (ci := 5) (q0 := 27) hE (kX5_ring l G (ma 0) fl tc (ma 1) (ma 2) (ma 3) M B (ma 4) (ma 5) (ma 6) at_ rM rB (ma 7) (ma 8) (ma 9) fb fto R (ma 10) (ma 11) (ma 12) (ma 13) (ma 14) (ma 15) mP (xs (i + 1)) hM) (cwV 1 hts gL_law_X5_ring rfl rfl rfl (by decide +kernel) ⟨Nat.le_of_ble_eq_true rfl, Nat.le_of_ble_eq_true rfl⟩) hP hK [27, 31] rfl rfl rfl rfl hl.1 rfl (Nat.le_of_ble_eq_true rfl) dL_law_508 hf0 ?_
  refine W.eq (g2 := F0 m 511 ls [.int (s_ring M mP (xs (i + 1))), .int (s_ring M P (xs (i + 1)))]) rfl ?_
  refine lv_icmp_eq (tgt := 1274) hx hb dL_law_511 (by decide) (fun _ => ?_) (fun c9 => absurd (q_ring hp hM (xs (i + 1))) c9)
  exact hk _ _ _ _ _ _ _ _ _ _ _ _ _ _ _ _ _ _ _ _ _ _ _ _ _ _ _ _ _ _ _ _ _ _ _ _ _ _ _ _ H locs cells slots hr hP hD hS (by omega) (by omega)
set_option maxHeartbeats 4000000 in
set_option maxRecDepth 100000 in
theorem cs_home {p : Program} {l : Launch} {e : Env} {s : State} {m : MethodId} {below : List Frame} {meth : Method} {c : Code} {Q : State → Prop} {b : Nat} {ls : Array Slot} {G : Gl} {ca ma rr sh sc : Nat → Nat} {RA SA : Nat → Option Nat} {L9 i : Nat} {xs : Nat → Int32} (C : LC p s m c b L9 i xs ls G ca ma rr sh RA SA) (hk : WW p l e s m below meth c Q b ls G ca ma rr sh sc RA SA 1274 (101 + i) (2005 + i)) : WW p l e s m below meth c Q b ls G ca ma rr sh sc RA SA 516 (100 + i) (2000 + i) := by
  intro R M B tc fl P K U tM tB P2 K2 U2 W1 N1 M1 K1 ln L F SO SL CE mP mK mU at_ rM rB RP RK RB fb fto mW mN mM mQ MO MU H locs cells slots hr hP hD hS hcb hsb
  obtain ⟨hE, hX, hbl, hK, hRA, hSA, hi, hL9, hl⟩ := id C
  obtain ⟨hx, hb, hml, hown, hts⟩ := id hE
  obtain ⟨hT, hRr, hSs⟩ := id hr
  obtain ⟨hM, hB, hMB, hp, hz, h9, hkk, hkd, hu, hub⟩ := id hT
  have hf0 : cells + 0 ≤ room_1.cells ∧ slots + 0 ≤ room_1.slots := ⟨by show cells + 0 ≤ 600000; omega, by show slots + 0 ≤ 7302250; omega⟩
  refine lv_aload_n hx hb dL_law_516 rfl (lv_at hl 2 rfl) ?_
  refine ldk (k := 1) C hS dL_law_517 dL_law_518 dL_law_519 dL_law_520 dL_law_521 (by decide) (by decide) ?_
  refine rdV (As := [.int (xs (i + 1))]) (rest := []) (ci := 4) (q0 := 0) hE (kX4_home l G (ca 0) (ca 1) (ca 5) (ca 9) (ca 10) R tc fl (ca 2) (ca 3) (ca 4) M B P U (xs (i + 1)) hM hB hz hub) (cwV 1 hts gL_law_X4_home rfl rfl rfl (by decide +kernel) ⟨Nat.le_of_ble_eq_true rfl, Nat.le_of_ble_eq_true rfl⟩) hP hK [0, 1, 2, 4] rfl rfl rfl rfl hl.1 rfl (Nat.le_of_ble_eq_true rfl) dL_law_522 hf0 ?_
  refine W.eq (g2 := F0 m 525 ls [.int (s_home B M P U (xs (i + 1)))]) rfl ?_
  refine lv_aload_n hx hb dL_law_525 rfl (lv_at hl 1 rfl) ?_
  refine ldk (k := 1) C hS dL_law_526 dL_law_527 dL_law_528 dL_law_529 dL_law_530 (by decide) (by decide) ?_
  refine rdV (As := [.int (xs (i + 1))]) (rest := [.int (s_home B M P U (xs (i + 1)))]) (ci := 5) (q0 := 27) hE (kX5_home l G (ma 0) fl tc (ma 1) (ma 2) (ma 3) M B (ma 4) (ma 5) (ma 6) at_ rM rB (ma 7) (ma 8) (ma 9) fb fto R (ma 10) (ma 11) (ma 12) (ma 13) (ma 14) (ma 15) mP mU (xs (i + 1)) hM hB hT.u) (cwV 1 hts gL_law_X5_home rfl rfl rfl (by decide +kernel) ⟨Nat.le_of_ble_eq_true rfl, Nat.le_of_ble_eq_true rfl⟩) hP hK [27, 31, 33] rfl rfl rfl rfl hl.1 rfl (Nat.le_of_ble_eq_true rfl) dL_law_531 hf0 ?_
  refine W.eq (g2 := F0 m 534 ls [.int (s_home B M mP mU (xs (i + 1))), .int (s_home B M P U (xs (i + 1)))]) rfl ?_
  refine lv_icmp_eq (tgt := 1274) hx hb dL_law_534 (by decide) (fun _ => ?_) (fun c9 => absurd (q_home hp hu hM hB hub (xs (i + 1))) c9)
  exact hk _ _ _ _ _ _ _ _ _ _ _ _ _ _ _ _ _ _ _ _ _ _ _ _ _ _ _ _ _ _ _ _ _ _ _ _ _ _ _ _ H locs cells slots hr hP hD hS (by omega) (by omega)
set_option maxHeartbeats 4000000 in
set_option maxRecDepth 100000 in
theorem cs_never {p : Program} {l : Launch} {e : Env} {s : State} {m : MethodId} {below : List Frame} {meth : Method} {c : Code} {Q : State → Prop} {b : Nat} {ls : Array Slot} {G : Gl} {ca ma rr sh sc : Nat → Nat} {RA SA : Nat → Option Nat} {L9 i : Nat} {xs : Nat → Int32} (C : LC p s m c b L9 i xs ls G ca ma rr sh RA SA) (hk : WW p l e s m below meth c Q b ls G ca ma rr sh sc RA SA 1274 (101 + i) (2005 + i)) : WW p l e s m below meth c Q b ls G ca ma rr sh sc RA SA 539 (100 + i) (2000 + i) := by
  intro R M B tc fl P K U tM tB P2 K2 U2 W1 N1 M1 K1 ln L F SO SL CE mP mK mU at_ rM rB RP RK RB fb fto mW mN mM mQ MO MU H locs cells slots hr hP hD hS hcb hsb
  obtain ⟨hE, hX, hbl, hK, hRA, hSA, hi, hL9, hl⟩ := id C
  obtain ⟨hx, hb, hml, hown, hts⟩ := id hE
  obtain ⟨hT, hRr, hSs⟩ := id hr
  obtain ⟨hM, hB, hMB, hp, hz, h9, hkk, hkd, hu, hub⟩ := id hT
  have hf0 : cells + 0 ≤ room_1.cells ∧ slots + 0 ≤ room_1.slots := ⟨by show cells + 0 ≤ 600000; omega, by show slots + 0 ≤ 7302250; omega⟩
  refine lv_aload_n hx hb dL_law_539 rfl (lv_at hl 2 rfl) ?_
  refine ldk (k := 1) C hS dL_law_540 dL_law_541 dL_law_542 dL_law_543 dL_law_544 (by decide) (by decide) ?_
  refine rdV (As := [.int (xs (i + 1))]) (rest := []) (ci := 4) (q0 := 0) hE (kX4_never l G (ca 0) (ca 1) (ca 5) (ca 9) (ca 10) R tc fl (ca 2) (ca 3) (ca 4) M B P U (xs (i + 1)) hM hB hz hub) (cwV 1 hts gL_law_X4_never rfl rfl rfl (by decide +kernel) ⟨Nat.le_of_ble_eq_true rfl, Nat.le_of_ble_eq_true rfl⟩) hP hK [0, 1, 2, 4] rfl rfl rfl rfl hl.1 rfl (Nat.le_of_ble_eq_true rfl) dL_law_545 hf0 ?_
  refine W.eq (g2 := F0 m 548 ls [.int (s_never B M P U (xs (i + 1)))]) rfl ?_
  refine lv_aload_n hx hb dL_law_548 rfl (lv_at hl 1 rfl) ?_
  refine ldk (k := 1) C hS dL_law_549 dL_law_550 dL_law_551 dL_law_552 dL_law_553 (by decide) (by decide) ?_
  refine rdV (As := [.int (xs (i + 1))]) (rest := [.int (s_never B M P U (xs (i + 1)))]) (ci := 5) (q0 := 27) hE (kX5_never l G (ma 0) fl tc (ma 1) (ma 2) (ma 3) M B (ma 4) (ma 5) (ma 6) at_ rM rB (ma 7) (ma 8) (ma 9) fb fto R (ma 10) (ma 11) (ma 12) (ma 13) (ma 14) (ma 15) mP mU (xs (i + 1)) hM hB hT.u) (cwV 1 hts gL_law_X5_never rfl rfl rfl (by decide +kernel) ⟨Nat.le_of_ble_eq_true rfl, Nat.le_of_ble_eq_true rfl⟩) hP hK [27, 31, 33] rfl rfl rfl rfl hl.1 rfl (Nat.le_of_ble_eq_true rfl) dL_law_554 hf0 ?_
  refine W.eq (g2 := F0 m 557 ls [.int (s_never B M mP mU (xs (i + 1))), .int (s_never B M P U (xs (i + 1)))]) rfl ?_
  refine lv_icmp_eq (tgt := 1274) hx hb dL_law_557 (by decide) (fun _ => ?_) (fun c9 => absurd (q_never hp hu hM hB hub (xs (i + 1))) c9)
  exact hk _ _ _ _ _ _ _ _ _ _ _ _ _ _ _ _ _ _ _ _ _ _ _ _ _ _ _ _ _ _ _ _ _ _ _ _ _ _ _ _ H locs cells slots hr hP hD hS (by omega) (by omega)
