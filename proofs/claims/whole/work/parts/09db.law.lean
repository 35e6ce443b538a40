/-! ===== the cases of the law: forge, back, debts, bound, kinds, odds, tell, call, as, trace, fault, many ===== -/
set_option maxHeartbeats 4000000 in
set_option maxRecDepth 100000 in
theorem cs_forge {p : Program} {l : Launch} {e : Env} {s : State} {m : MethodId} {below : List Frame} {meth : Method} {c : Code} {Q : State → Prop} {b : Nat} {ls : Array Slot} {G : Gl} {ca ma rr sh sc : Nat → Nat} {RA SA : Nat → Option Nat} {L9 i : Nat} {xs : Nat → Int32} (C : LC p s m c b L9 i xs ls G ca ma rr sh RA SA) (hk : WW p l e s m below meth c Q b ls G ca ma rr sh sc RA SA 1274 (101 + i) (2005 + i)) : WW p l e s m below meth c Q b ls G ca ma rr sh sc RA SA 625 (100 + i) (2000 + i) := by
  intro R M B tc fl P K U tM tB P2 K2 U2 W1 N1 M1 K1 ln L F SO SL CE mP mK mU at_ rM rB RP RK RB fb fto mW mN mM mQ MO MU H locs cells slots hr hP hD hS hcb hsb
  obtain ⟨hE, hX, hbl, hK, hRA, hSA, hi, hL9, hl⟩ := id C
  obtain ⟨hx, hb, hml, hown, hts⟩ := id hE
  obtain ⟨hT, hRr, hSs⟩ := id hr
  obtain ⟨hM, hB, hMB, hp, hz, h9, hkk, hkd, hu, hub⟩ := id hT
  have hf0 : cells + 0 ≤ room_1.cells ∧ slots + 0 ≤ room_1.slots := ⟨by show cells + 0 ≤ 600000; omega, by show slots + 0 ≤ 7302250; omega⟩
  refine lv_aload_n hx hb dL_law_625 rfl (lv_at hl 2 rfl) ?_
  refine ldk (k := 1) C hS dL_law_626 dL_law_627 dL_law_628 dL_law_629 dL_law_630 (by decide) (by decide) ?_
  refine ldk (k := 2) C hS dL_law_631 dL_law_632 dL_law_633 dL_law_634 dL_law_635 (by decide) (by decide) ?_
  refine ldk (k := 3) C hS dL_law_636 dL_law_637 dL_law_638 dL_law_639 dL_law_640 (by decide) (by decide) ?_
  refine ldk (k := 4) C hS dL_law_641 dL_law_642 dL_law_643 dL_law_644 dL_law_645 (by decide) (by decide) ?_
  refine wtV (As := [.int (xs (i + 1)), .int (xs (i + 2)), .int (xs (i + 3)), .int (xs (i + 4))]) (rest := []) (ci := 4) (q0 := 0) (W1 := WL G ca ma rr sh sc RA SA R M B tc fl P K U (fgG B M P U (xs (i + 1)) (xs (i + 2)) (xs (i + 3)) (xs (i + 4)) (nI M) tM) (fgG B M P U (xs (i + 1)) (xs (i + 2)) (xs (i + 3)) (xs (i + 4)) (nI B) tB) (fgG B M P U (xs (i + 1)) (xs (i + 2)) (xs (i + 3)) (xs (i + 4)) P P2) (fgG B M P U (xs (i + 1)) (xs (i + 2)) (xs (i + 3)) (xs (i + 4)) K K2) (fgG B M P U (xs (i + 1)) (xs (i + 2)) (xs (i + 3)) (xs (i + 4)) U U2) W1 N1 M1 K1 ln L F R M B tc fl SO SL CE mP mK mU at_ rM rB RP RK RB fb fto mW mN mM mQ MO MU) hE (kX4_forge l G (ca 0) (ca 1) (ca 5) (ca 9) (ca 10) R tc fl (ca 2) (ca 3) (ca 4) M B P K U (ca 6) (ca 7) (ca 8) tM tB P2 K2 U2 (xs (i + 1)) (xs (i + 2)) (xs (i + 3)) (xs (i + 4)) hM hB hz hub h9) (cwV 4 hts gL_law_X4_forge rfl rfl rfl (by decide +kernel) ⟨Nat.le_of_ble_eq_true rfl, Nat.le_of_ble_eq_true rfl⟩) hP hK hD hS [0, 1, 2, 3, 4, 5, 6, 7, 8] (by decide +kernel) rfl (Eq.trans (b := [ca 0, ca 1, ca 2, ca 3, ca 4, ca 5, ca 6, ca 7, ca 8]) rfl rfl) rfl rfl rfl rfl hl.1 rfl (Nat.le_of_ble_eq_true rfl) dL_law_646 hf0 (fun H locs hP hD hS => ?_)
  refine W.eq (g2 := F0 m 649 ls [.int (s_forge B M P U (xs (i + 1)) (xs (i + 2)) (xs (i + 3)) (xs (i + 4)))]) rfl ?_
  refine lv_aload_n hx hb dL_law_649 rfl (lv_at hl 1 rfl) ?_
  refine ldk (k := 1) C hS dL_law_650 dL_law_651 dL_law_652 dL_law_653 dL_law_654 (by decide) (by decide) ?_
  refine ldk (k := 2) C hS dL_law_655 dL_law_656 dL_law_657 dL_law_658 dL_law_659 (by decide) (by decide) ?_
  refine ldk (k := 3) C hS dL_law_660 dL_law_661 dL_law_662 dL_law_663 dL_law_664 (by decide) (by decide) ?_
  refine ldk (k := 4) C hS dL_law_665 dL_law_666 dL_law_667 dL_law_668 dL_law_669 (by decide) (by decide) ?_
  refine wtV (As := [.int (xs (i + 1)), .int (xs (i + 2)), .int (xs (i + 3)), .int (xs (i + 4))]) (rest := [.int (s_forge B M P U (xs (i + 1)) (xs (i + 2)) (xs (i + 3)) (xs (i + 4)))]) (ci := 5) (q0 := 27) (W1 := WL G ca ma rr sh sc RA SA R M B tc fl P K U (fgG B M P U (xs (i + 1)) (xs (i + 2)) (xs (i + 3)) (xs (i + 4)) (nI M) tM) (fgG B M P U (xs (i + 1)) (xs (i + 2)) (xs (i + 3)) (xs (i + 4)) (nI B) tB) (fgG B M P U (xs (i + 1)) (xs (i + 2)) (xs (i + 3)) (xs (i + 4)) P P2) (fgG B M P U (xs (i + 1)) (xs (i + 2)) (xs (i + 3)) (xs (i + 4)) K K2) (fgG B M P U (xs (i + 1)) (xs (i + 2)) (xs (i + 3)) (xs (i + 4)) U U2) W1 N1 M1 K1 ln L F R M B tc fl SO SL CE mP mK mU at_ rM rB RP RK RB (fgB B M mP mU (xs (i + 1)) (xs (i + 2)) (xs (i + 3)) (xs (i + 4)) fb) (fgT B M mP mU (xs (i + 1)) (xs (i + 2)) (xs (i + 3)) (xs (i + 4)) fto) mW mN mM mQ MO MU) hE (kX5_forge l G (ma 0) fl tc (ma 1) (ma 2) (ma 3) M B (ma 4) (ma 5) (ma 6) at_ rM rB (ma 7) (ma 8) (ma 9) fb fto R (ma 10) (ma 11) (ma 12) (ma 13) (ma 14) (ma 15) mP mU (xs (i + 1)) (xs (i + 2)) (xs (i + 3)) (xs (i + 4)) hM hB hT.z hT.u hT.p9) (cwV 4 hts gL_law_X5_forge rfl rfl rfl (by decide +kernel) ⟨Nat.le_of_ble_eq_true rfl, Nat.le_of_ble_eq_true rfl⟩) hP hK hD hS [27, 31, 33] (by decide +kernel) rfl (Eq.trans (b := [ma 0, ma 4, ma 6]) rfl rfl) rfl rfl rfl rfl hl.1 rfl (Nat.le_of_ble_eq_true rfl) dL_law_670 hf0 (fun H locs hP hD hS => ?_)
  refine W.eq (g2 := F0 m 673 ls [.int (s_forge B M mP mU (xs (i + 1)) (xs (i + 2)) (xs (i + 3)) (xs (i + 4))), .int (s_forge B M P U (xs (i + 1)) (xs (i + 2)) (xs (i + 3)) (xs (i + 4)))]) rfl ?_
  refine lv_icmp_eq (tgt := 1274) hx hb dL_law_673 (by decide) (fun _ => ?_) (fun c9 => absurd (q_forge hp hu hM hB hub (xs (i + 1)) (xs (i + 2)) (xs (i + 3)) (xs (i + 4))) c9)
  exact hk _ _ _ _ _ _ _ _ _ _ _ _ _ _ _ _ _ _ _ _ _ _ _ _ _ _ _ _ _ _ _ _ _ _ _ _ _ _ _ _ H locs cells slots hr hP hD hS (by omega) (by omega)
set_option maxHeartbeats 4000000 in
set_option maxRecDepth 100000 in
theorem cs_back {p : Program} {l : Launch} {e : Env} {s : State} {m : MethodId} {below : List Frame} {meth : Method} {c : Code} {Q : State → Prop} {b : Nat} {ls : Array Slot} {G : Gl} {ca ma rr sh sc : Nat → Nat} {RA SA : Nat → Option Nat} {L9 i : Nat} {xs : Nat → Int32} (C : LC p s m c b L9 i xs ls G ca ma rr sh RA SA) (hk : WW p l e s m below meth c Q b ls G ca ma rr sh sc RA SA 1274 (101 + i) (2005 + i)) : WW p l e s m below meth c Q b ls G ca ma rr sh sc RA SA 774 (100 + i) (2000 + i) := by
  intro R M B tc fl P K U tM tB P2 K2 U2 W1 N1 M1 K1 ln L F SO SL CE mP mK mU at_ rM rB RP RK RB fb fto mW mN mM mQ MO MU H locs cells slots hr hP hD hS hcb hsb
  obtain ⟨hE, hX, hbl, hK, hRA, hSA, hi, hL9, hl⟩ := id C
  obtain ⟨hx, hb, hml, hown, hts⟩ := id hE
  obtain ⟨hT, hRr, hSs⟩ := id hr
  obtain ⟨hM, hB, hMB, hp, hz, h9, hkk, hkd, hu, hub⟩ := id hT
  have hf0 : cells + 0 ≤ room_1.cells ∧ slots + 0 ≤ room_1.slots := ⟨by show cells + 0 ≤ 600000; omega, by show slots + 0 ≤ 7302250; omega⟩
  refine lv_aload_n hx hb dL_law_774 rfl (lv_at hl 2 rfl) ?_
  refine ldk (k := 1) C hS dL_law_775 dL_law_776 dL_law_777 dL_law_778 dL_law_779 (by decide) (by decide) ?_
  refine wtV (As := [.int (xs (i + 1))]) (rest := []) (ci := 4) (q0 := 0) (W1 := WL G ca ma rr sh sc RA SA (r_back R (xs (i + 1))) M B tc fl P K U tM tB P2 K2 U2 W1 N1 M1 K1 ln L F R M B tc fl SO SL CE mP mK mU at_ rM rB RP RK RB fb fto mW mN mM mQ MO MU) hE (kX4_back l G (ca 0) (ca 1) (ca 5) (ca 9) (ca 10) R tc fl (xs (i + 1)) hRr.1) (cwV 1 hts gL_law_X4_back rfl rfl rfl (by decide +kernel) ⟨Nat.le_of_ble_eq_true rfl, Nat.le_of_ble_eq_true rfl⟩) hP hK hD hS [0] (by decide +kernel) rfl (Eq.trans (b := [ca 0]) rfl rfl) rfl rfl rfl rfl hl.1 rfl (Nat.le_of_ble_eq_true rfl) dL_law_780 hf0 (fun H locs hP hD hS => ?_)
  refine W.eq (g2 := F0 m 783 ls [.int (s_back R (xs (i + 1)))]) rfl ?_
  refine lv_aload_n hx hb dL_law_783 rfl (lv_at hl 1 rfl) ?_
  refine ldk (k := 1) C hS dL_law_784 dL_law_785 dL_law_786 dL_law_787 dL_law_788 (by decide) (by decide) ?_
  refine wtV (As := [.int (xs (i + 1))]) (rest := [.int (s_back R (xs (i + 1)))]) (ci := 5) (q0 := 27) (W1 := WL G ca ma rr sh sc RA SA (r_back R (xs (i + 1))) M B tc fl P K U tM tB P2 K2 U2 W1 N1 M1 K1 ln L F (r_back R (xs (i + 1))) M B tc fl SO SL CE mP mK mU at_ rM rB RP RK RB fb fto mW mN mM mQ MO MU) hE (kX5_back l G (ma 0) fl tc (ma 1) (ma 2) (ma 3) M B (ma 4) (ma 5) (ma 6) at_ rM rB (ma 7) (ma 8) (ma 9) fb fto R (ma 10) (ma 11) (ma 12) (ma 13) (ma 14) (ma 15) (xs (i + 1)) hRr.1) (cwV 1 hts gL_law_X5_back rfl rfl rfl (by decide +kernel) ⟨Nat.le_of_ble_eq_true rfl, Nat.le_of_ble_eq_true rfl⟩) hP hK hD hS [27] (by decide +kernel) rfl (Eq.trans (b := [ma 0]) rfl rfl) rfl rfl rfl rfl hl.1 rfl (Nat.le_of_ble_eq_true rfl) dL_law_789 hf0 (fun H locs hP hD hS => ?_)
  refine W.eq (g2 := F0 m 792 ls [.int (s_back R (xs (i + 1))), .int (s_back R (xs (i + 1)))]) rfl ?_
  refine lv_icmp_eq (tgt := 1274) hx hb dL_law_792 (by decide) (fun _ => ?_) (fun c9 => absurd rfl c9)
  exact hk _ _ _ _ _ _ _ _ _ _ _ _ _ _ _ _ _ _ _ _ _ _ _ _ _ _ _ _ _ _ _ _ _ _ _ _ _ _ _ _ H locs cells slots ⟨hT, k_back hRr _, hSs⟩ hP hD hS (by omega) (by omega)
set_option maxHeartbeats 4000000 in
set_option maxRecDepth 100000 in
theorem cs_debts {p : Program} {l : Launch} {e : Env} {s : State} {m : MethodId} {below : List Frame} {meth : Method} {c : Code} {Q : State → Prop} {b : Nat} {ls : Array Slot} {G : Gl} {ca ma rr sh sc : Nat → Nat} {RA SA : Nat → Option Nat} {L9 i : Nat} {xs : Nat → Int32} (C : LC p s m c b L9 i xs ls G ca ma rr sh RA SA) (hk : WW p l e s m below meth c Q b ls G ca ma rr sh sc RA SA 1274 (101 + i) (2005 + i)) : WW p l e s m below meth c Q b ls G ca ma rr sh sc RA SA 797 (100 + i) (2000 + i) := by
  intro R M B tc fl P K U tM tB P2 K2 U2 W1 N1 M1 K1 ln L F SO SL CE mP mK mU at_ rM rB RP RK RB fb fto mW mN mM mQ MO MU H locs cells slots hr hP hD hS hcb hsb
  obtain ⟨hE, hX, hbl, hK, hRA, hSA, hi, hL9, hl⟩ := id C
  obtain ⟨hx, hb, hml, hown, hts⟩ := id hE
  obtain ⟨hT, hRr, hSs⟩ := id hr
  obtain ⟨hM, hB, hMB, hp, hz, h9, hkk, hkd, hu, hub⟩ := id hT
  have hf0 : cells + 0 ≤ room_1.cells ∧ slots + 0 ≤ room_1.slots := ⟨by show cells + 0 ≤ 600000; omega, by show slots + 0 ≤ 7302250; omega⟩
  refine lv_aload_n hx hb dL_law_797 rfl (lv_at hl 2 rfl) ?_
  refine ldk (k := 1) C hS dL_law_798 dL_law_799 dL_law_800 dL_law_801 dL_law_802 (by decide) (by decide) ?_
  refine ldk (k := 2) C hS dL_law_803 dL_law_804 dL_law_805 dL_law_806 dL_law_807 (by decide) (by decide) ?_
  refine wtV (As := [.int (xs (i + 1)), .int (xs (i + 2))]) (rest := []) (ci := 4) (q0 := 0) (W1 := WL G ca ma rr sh sc RA SA R M B tc fl P K U (iF (hd M (xs (i + 1)) (xs (i + 2))) (nI M) tM) (iF (hd M (xs (i + 1)) (xs (i + 2))) (nI B) tB) (iF (hd M (xs (i + 1)) (xs (i + 2))) (dbp P (tn (xs (i + 1)) * 5 + tn (xs (i + 2))) 10) P2) (iF (hd M (xs (i + 1)) (xs (i + 2))) K K2) (iF (hd M (xs (i + 1)) (xs (i + 2))) U U2) W1 N1 M1 K1 ln L F R M B tc fl SO SL CE mP mK mU at_ rM rB RP RK RB fb fto mW mN mM mQ MO MU) hE (kX4_debts l G (ca 0) (ca 1) (ca 5) (ca 9) (ca 10) R tc fl (ca 2) (ca 3) (ca 4) M B P K U (ca 6) (ca 7) (ca 8) tM tB P2 K2 U2 RA rr W1 N1 M1 K1 (xs (i + 1)) (xs (i + 2)) hM hB hRr.1 hz hub hRA hRr.2.1) (cwV 2 hts gL_law_X4_debts rfl rfl rfl (by decide +kernel) ⟨Nat.le_of_ble_eq_true rfl, Nat.le_of_ble_eq_true rfl⟩) hP hK hD hS [0, 1, 2, 3, 4, 5, 6, 7, 8, 9, 11, 12, 13, 14, 15, 16, 17, 18] (by decide +kernel) rfl (Eq.trans (b := [ca 0, ca 1, ca 2, ca 3, ca 4, ca 5, ca 6, ca 7, ca 8, ca 9, rr 0, rr 1, rr 2, rr 3, rr 4, rr 5, rr 6, rr 7]) rfl rfl) (by simp only [sAll, WL, List.set_cons_succ, List.set_cons_zero]) rfl rfl rfl hl.1 rfl (Nat.le_of_ble_eq_true rfl) dL_law_808 hf0 (fun H locs hP hD hS => ?_)
  refine W.eq (g2 := F0 m 811 ls [.int (s_debts (-1) M P K U W1 N1 M1 K1 R (xs (i + 1)) (xs (i + 2)))]) rfl ?_
  refine lv_aload_n hx hb dL_law_811 rfl (lv_at hl 1 rfl) ?_
  refine ldk (k := 1) C hS dL_law_812 dL_law_813 dL_law_814 dL_law_815 dL_law_816 (by decide) (by decide) ?_
  refine ldk (k := 2) C hS dL_law_817 dL_law_818 dL_law_819 dL_law_820 dL_law_821 (by decide) (by decide) ?_
  refine wtV (As := [.int (xs (i + 1)), .int (xs (i + 2))]) (rest := [.int (s_debts (-1) M P K U W1 N1 M1 K1 R (xs (i + 1)) (xs (i + 2)))]) (ci := 5) (q0 := 27) (W1 := WL G ca ma rr sh sc RA SA R M B tc fl P K U (iF (hd M (xs (i + 1)) (xs (i + 2))) (nI M) tM) (iF (hd M (xs (i + 1)) (xs (i + 2))) (nI B) tB) (iF (hd M (xs (i + 1)) (xs (i + 2))) (dbp P (tn (xs (i + 1)) * 5 + tn (xs (i + 2))) 10) P2) (iF (hd M (xs (i + 1)) (xs (i + 2))) K K2) (iF (hd M (xs (i + 1)) (xs (i + 2))) U U2) W1 N1 M1 K1 ln L F R M B tc fl SO SL CE mP mK mU at_ rM rB RP RK RB fb fto mW mN mM mQ MO MU) hE (kX5_debts l G (ma 0) fl tc (ma 1) (ma 2) (ma 3) M B (ma 4) (ma 5) (ma 6) at_ rM rB (ma 7) (ma 8) (ma 9) fb fto R (ma 10) (ma 11) (ma 12) (ma 13) (ma 14) (ma 15) mP mK mU mW mN mM mQ (xs (i + 1)) (xs (i + 2)) hM hB hRr.1 hT.u hT.k hRr.m) (cwV 2 hts gL_law_X5_debts rfl rfl rfl (by decide +kernel) ⟨Nat.le_of_ble_eq_true rfl, Nat.le_of_ble_eq_true rfl⟩) hP hK hD hS [27, 31, 32, 33, 37, 38, 39, 40] (by decide +kernel) rfl (Eq.trans (b := [ma 0, ma 4, ma 5, ma 6, ma 10, ma 11, ma 12, ma 13]) rfl rfl) rfl rfl rfl rfl hl.1 rfl (Nat.le_of_ble_eq_true rfl) dL_law_822 hf0 (fun H locs hP hD hS => ?_)
  refine W.eq (g2 := F0 m 825 ls [.int (s_debts (-9) M mP mK mU mW mN mM mQ R (xs (i + 1)) (xs (i + 2))), .int (s_debts (-1) M P K U W1 N1 M1 K1 R (xs (i + 1)) (xs (i + 2)))]) rfl ?_
  refine lv_icmp_eq (tgt := 1274) hx hb dL_law_825 (by decide) (fun _ => ?_) (fun c9 => absurd (q_debts hp hkk hu hM hB hub hRr.2.2 (xs (i + 1)) (xs (i + 2))) c9)
  exact hk _ _ _ _ _ _ _ _ _ _ _ _ _ _ _ _ _ _ _ _ _ _ _ _ _ _ _ _ _ _ _ _ _ _ _ _ _ _ _ _ H locs cells slots hr hP hD hS (by omega) (by omega)
set_option maxHeartbeats 4000000 in
set_option maxRecDepth 100000 in
theorem cs_bound {p : Program} {l : Launch} {e : Env} {s : State} {m : MethodId} {below : List Frame} {meth : Method} {c : Code} {Q : State → Prop} {b : Nat} {ls : Array Slot} {G : Gl} {ca ma rr sh sc : Nat → Nat} {RA SA : Nat → Option Nat} {L9 i : Nat} {xs : Nat → Int32} (C : LC p s m c b L9 i xs ls G ca ma rr sh RA SA) (hk : WW p l e s m below meth c Q b ls G ca ma rr sh sc RA SA 1274 (101 + i) (2005 + i)) : WW p l e s m below meth c Q b ls G ca ma rr sh sc RA SA 830 (100 + i) (2000 + i) := by
  intro R M B tc fl P K U tM tB P2 K2 U2 W1 N1 M1 K1 ln L F SO SL CE mP mK mU at_ rM rB RP RK RB fb fto mW mN mM mQ MO MU H locs cells slots hr hP hD hS hcb hsb
  obtain ⟨hE, hX, hbl, hK, hRA, hSA, hi, hL9, hl⟩ := id C
  obtain ⟨hx, hb, hml, hown, hts⟩ := id hE
  obtain ⟨hT, hRr, hSs⟩ := id hr
  obtain ⟨hM, hB, hMB, hp, hz, h9, hkk, hkd, hu, hub⟩ := id hT
  have hf0 : cells + 0 ≤ room_1.cells ∧ slots + 0 ≤ room_1.slots := ⟨by show cells + 0 ≤ 600000; omega, by show slots + 0 ≤ 7302250; omega⟩
  refine lv_aload_n hx hb dL_law_830 rfl (lv_at hl 2 rfl) ?_
  refine ldk (k := 1) C hS dL_law_831 dL_law_832 dL_law_833 dL_law_834 dL_law_835 (by decide) (by decide) ?_
  refine wtV (As := [.int (xs (i + 1))]) (rest := []) (ci := 4) (q0 := 0) (W1 := WL G ca ma rr sh sc RA SA R M B tc fl P K U (iF (vp_in (xs (i + 1)) B) (nI M) tM) (iF (vp_in (xs (i + 1)) B) (nI B) tB) (iF (vp_in (xs (i + 1)) B) P P2) (iF (vp_in (xs (i + 1)) B) K K2) (iF (vp_in (xs (i + 1)) B) (dbp U (tn (xs (i + 1))) M) U2) W1 N1 M1 K1 ln L F R M B tc fl SO SL CE mP mK mU at_ rM rB RP RK RB fb fto mW mN mM mQ MO MU) hE (kX4_bound l G (ca 0) (ca 1) (ca 5) (ca 9) (ca 10) R tc fl (ca 2) (ca 3) (ca 4) M B P K U (ca 6) (ca 7) (ca 8) tM tB P2 K2 U2 RA rr W1 N1 M1 K1 (xs (i + 1)) hM hB hRr.1 hz hub hRA hRr.2.1) (cwV 1 hts gL_law_X4_bound rfl rfl rfl (by decide +kernel) ⟨Nat.le_of_ble_eq_true rfl, Nat.le_of_ble_eq_true rfl⟩) hP hK hD hS [0, 1, 2, 3, 4, 5, 6, 7, 8, 9, 11, 12, 13, 14, 15, 16, 17, 18] (by decide +kernel) rfl (Eq.trans (b := [ca 0, ca 1, ca 2, ca 3, ca 4, ca 5, ca 6, ca 7, ca 8, ca 9, rr 0, rr 1, rr 2, rr 3, rr 4, rr 5, rr 6, rr 7]) rfl rfl) (by simp only [sAll, WL, List.set_cons_succ, List.set_cons_zero]) rfl rfl rfl hl.1 rfl (Nat.le_of_ble_eq_true rfl) dL_law_836 hf0 (fun H locs hP hD hS => ?_)
  refine W.eq (g2 := F0 m 839 ls [.int (s_bound (-1) B M P K U W1 N1 M1 K1 R (xs (i + 1)))]) rfl ?_
  refine lv_aload_n hx hb dL_law_839 rfl (lv_at hl 1 rfl) ?_
  refine ldk (k := 1) C hS dL_law_840 dL_law_841 dL_law_842 dL_law_843 dL_law_844 (by decide) (by decide) ?_
  refine wtV (As := [.int (xs (i + 1))]) (rest := [.int (s_bound (-1) B M P K U W1 N1 M1 K1 R (xs (i + 1)))]) (ci := 5) (q0 := 27) (W1 := WL G ca ma rr sh sc RA SA R M B tc fl P K U (iF (vp_in (xs (i + 1)) B) (nI M) tM) (iF (vp_in (xs (i + 1)) B) (nI B) tB) (iF (vp_in (xs (i + 1)) B) P P2) (iF (vp_in (xs (i + 1)) B) K K2) (iF (vp_in (xs (i + 1)) B) (dbp U (tn (xs (i + 1))) M) U2) W1 N1 M1 K1 ln L F R M B tc fl SO SL CE mP mK mU at_ rM rB RP RK RB fb fto mW mN mM mQ MO MU) hE (kX5_bound l G (ma 0) fl tc (ma 1) (ma 2) (ma 3) M B (ma 4) (ma 5) (ma 6) at_ rM rB (ma 7) (ma 8) (ma 9) fb fto R (ma 10) (ma 11) (ma 12) (ma 13) (ma 14) (ma 15) mP mK mU mW mN mM mQ (xs (i + 1)) hM hB hRr.1 hT.u hT.k hRr.m) (cwV 1 hts gL_law_X5_bound rfl rfl rfl (by decide +kernel) ⟨Nat.le_of_ble_eq_true rfl, Nat.le_of_ble_eq_true rfl⟩) hP hK hD hS [27, 31, 32, 33, 37, 38, 39, 40] (by decide +kernel) rfl (Eq.trans (b := [ma 0, ma 4, ma 5, ma 6, ma 10, ma 11, ma 12, ma 13]) rfl rfl) rfl rfl rfl rfl hl.1 rfl (Nat.le_of_ble_eq_true rfl) dL_law_845 hf0 (fun H locs hP hD hS => ?_)
  refine W.eq (g2 := F0 m 848 ls [.int (s_bound (-9) B M mP mK mU mW mN mM mQ R (xs (i + 1))), .int (s_bound (-1) B M P K U W1 N1 M1 K1 R (xs (i + 1)))]) rfl ?_
  refine lv_icmp_eq (tgt := 1274) hx hb dL_law_848 (by decide) (fun _ => ?_) (fun c9 => absurd (q_bound hp hkk hu hM hB hub hRr.2.2 (xs (i + 1))) c9)
  exact hk _ _ _ _ _ _ _ _ _ _ _ _ _ _ _ _ _ _ _ _ _ _ _ _ _ _ _ _ _ _ _ _ _ _ _ _ _ _ _ _ H locs cells slots hr hP hD hS (by omega) (by omega)
set_option maxHeartbeats 4000000 in
set_option maxRecDepth 100000 in
theorem cs_kinds {p : Program} {l : Launch} {e : Env} {s : State} {m : MethodId} {below : List Frame} {meth : Method} {c : Code} {Q : State → Prop} {b : Nat} {ls : Array Slot} {G : Gl} {ca ma rr sh sc : Nat → Nat} {RA SA : Nat → Option Nat} {L9 i : Nat} {xs : Nat → Int32} (C : LC p s m c b L9 i xs ls G ca ma rr sh RA SA) (hk : WW p l e s m below meth c Q b ls G ca ma rr sh sc RA SA 1274 (101 + i) (2005 + i)) : WW p l e s m below meth c Q b ls G ca ma rr sh sc RA SA 853 (100 + i) (2000 + i) := by
  intro R M B tc fl P K U tM tB P2 K2 U2 W1 N1 M1 K1 ln L F SO SL CE mP mK mU at_ rM rB RP RK RB fb fto mW mN mM mQ MO MU H locs cells slots hr hP hD hS hcb hsb
  obtain ⟨hE, hX, hbl, hK, hRA, hSA, hi, hL9, hl⟩ := id C
  obtain ⟨hx, hb, hml, hown, hts⟩ := id hE
  obtain ⟨hT, hRr, hSs⟩ := id hr
  obtain ⟨hM, hB, hMB, hp, hz, h9, hkk, hkd, hu, hub⟩ := id hT
  have hf0 : cells + 0 ≤ room_1.cells ∧ slots + 0 ≤ room_1.slots := ⟨by show cells + 0 ≤ 600000; omega, by show slots + 0 ≤ 7302250; omega⟩
  refine lv_aload_n hx hb dL_law_853 rfl (lv_at hl 2 rfl) ?_
  refine ldk (k := 1) C hS dL_law_854 dL_law_855 dL_law_856 dL_law_857 dL_law_858 (by decide) (by decide) ?_
  refine wtV (As := [.int (xs (i + 1))]) (rest := []) (ci := 4) (q0 := 0) (W1 := WL G ca ma rr sh sc RA SA R M B tc fl P K U (iF (vp_in (xs (i + 1)) B) (nI M) tM) (iF (vp_in (xs (i + 1)) B) (nI B) tB) (iF (vp_in (xs (i + 1)) B) P P2) (iF (vp_in (xs (i + 1)) B) (dbp K (tn (xs (i + 1))) 3) K2) (iF (vp_in (xs (i + 1)) B) U U2) W1 N1 M1 K1 ln L F R M B tc fl SO SL CE mP mK mU at_ rM rB RP RK RB fb fto mW mN mM mQ MO MU) hE (kX4_kinds l G (ca 0) (ca 1) (ca 5) (ca 9) (ca 10) R tc fl (ca 2) (ca 3) (ca 4) M B P K U (ca 6) (ca 7) (ca 8) tM tB P2 K2 U2 RA rr W1 N1 M1 K1 (xs (i + 1)) hM hB hRr.1 hz hub hRA hRr.2.1) (cwV 1 hts gL_law_X4_kinds rfl rfl rfl (by decide +kernel) ⟨Nat.le_of_ble_eq_true rfl, Nat.le_of_ble_eq_true rfl⟩) hP hK hD hS [0, 1, 2, 3, 4, 5, 6, 7, 8, 9, 11, 12, 13, 14, 15, 16, 17, 18] (by decide +kernel) rfl (Eq.trans (b := [ca 0, ca 1, ca 2, ca 3, ca 4, ca 5, ca 6, ca 7, ca 8, ca 9, rr 0, rr 1, rr 2, rr 3, rr 4, rr 5, rr 6, rr 7]) rfl rfl) (by simp only [sAll, WL, List.set_cons_succ, List.set_cons_zero]) rfl rfl rfl hl.1 rfl (Nat.le_of_ble_eq_true rfl) dL_law_859 hf0 (fun H locs hP hD hS => ?_)
  refine W.eq (g2 := F0 m 862 ls [.int (s_kinds (-1) B M P K U W1 N1 M1 K1 R (xs (i + 1)))]) rfl ?_
  refine lv_aload_n hx hb dL_law_862 rfl (lv_at hl 1 rfl) ?_
  refine ldk (k := 1) C hS dL_law_863 dL_law_864 dL_law_865 dL_law_866 dL_law_867 (by decide) (by decide) ?_
  refine wtV (As := [.int (xs (i + 1))]) (rest := [.int (s_kinds (-1) B M P K U W1 N1 M1 K1 R (xs (i + 1)))]) (ci := 5) (q0 := 27) (W1 := WL G ca ma rr sh sc RA SA R M B tc fl P K U (iF (vp_in (xs (i + 1)) B) (nI M) tM) (iF (vp_in (xs (i + 1)) B) (nI B) tB) (iF (vp_in (xs (i + 1)) B) P P2) (iF (vp_in (xs (i + 1)) B) (dbp K (tn (xs (i + 1))) 3) K2) (iF (vp_in (xs (i + 1)) B) U U2) W1 N1 M1 K1 ln L F R M B tc fl SO SL CE mP mK mU at_ rM rB RP RK RB fb fto mW mN mM mQ MO MU) hE (kX5_kinds l G (ma 0) fl tc (ma 1) (ma 2) (ma 3) M B (ma 4) (ma 5) (ma 6) at_ rM rB (ma 7) (ma 8) (ma 9) fb fto R (ma 10) (ma 11) (ma 12) (ma 13) (ma 14) (ma 15) mP mK mU mW mN mM mQ (xs (i + 1)) hM hB hRr.1 hT.u hT.k hRr.m) (cwV 1 hts gL_law_X5_kinds rfl rfl rfl (by decide +kernel) ⟨Nat.le_of_ble_eq_true rfl, Nat.le_of_ble_eq_true rfl⟩) hP hK hD hS [27, 31, 32, 33, 37, 38, 39, 40] (by decide +kernel) rfl (Eq.trans (b := [ma 0, ma 4, ma 5, ma 6, ma 10, ma 11, ma 12, ma 13]) rfl rfl) rfl rfl rfl rfl hl.1 rfl (Nat.le_of_ble_eq_true rfl) dL_law_868 hf0 (fun H locs hP hD hS => ?_)
  refine W.eq (g2 := F0 m 871 ls [.int (s_kinds (-9) B M mP mK mU mW mN mM mQ R (xs (i + 1))), .int (s_kinds (-1) B M P K U W1 N1 M1 K1 R (xs (i + 1)))]) rfl ?_
  refine lv_icmp_eq (tgt := 1274) hx hb dL_law_871 (by decide) (fun _ => ?_) (fun c9 => absurd (q_kinds hp hkk hu hM hB hub hRr.2.2 (xs (i + 1))) c9)
  exact hk _ _ _ _ _ _ _ _ _ _ _ _ _ _ _ _ _ _ _ _ _ _ _ _ _ _ _ _ _ _ _ _ _ _ _ _ _ _ _ _ H locs cells slots hr hP hD hS (by omega) (by omega)
set_option maxHeartbeats 4000000 in
set_option maxRecDepth 100000 in
theorem cs_odds {p : Program} {l : Launch} {e : Env} {s : State} {m : MethodId} {below : List Frame} {meth : Method} {c : Code} {Q : State → Prop} {b : Nat} {ls : Array Slot} {G : Gl} {ca ma rr sh sc : Nat → Nat} {RA SA : Nat → Option Nat} {L9 i : Nat} {xs : Nat → Int32} (C : LC p s m c b L9 i xs ls G ca ma rr sh RA SA) (hk : WW p l e s m below meth c Q b ls G ca ma rr sh sc RA SA 1274 (101 + i) (2005 + i)) : WW p l e s m below meth c Q b ls G ca ma rr sh sc RA SA 876 (100 + i) (2000 + i) := by
  intro R M B tc fl P K U tM tB P2 K2 U2 W1 N1 M1 K1 ln L F SO SL CE mP mK mU at_ rM rB RP RK RB fb fto mW mN mM mQ MO MU H locs cells slots hr hP hD hS hcb hsb
  obtain ⟨hE, hX, hbl, hK, hRA, hSA, hi, hL9, hl⟩ := id C
  obtain ⟨hx, hb, hml, hown, hts⟩ := id hE
  obtain ⟨hT, hRr, hSs⟩ := id hr
  obtain ⟨hM, hB, hMB, hp, hz, h9, hkk, hkd, hu, hub⟩ := id hT
  have hf0 : cells + 0 ≤ room_1.cells ∧ slots + 0 ≤ room_1.slots := ⟨by show cells + 0 ≤ 600000; omega, by show slots + 0 ≤ 7302250; omega⟩
  refine lv_aload_n hx hb dL_law_876 rfl (lv_at hl 2 rfl) ?_
  refine ldk (k := 1) C hS dL_law_877 dL_law_878 dL_law_879 dL_law_880 dL_law_881 (by decide) (by decide) ?_
  refine ldk (k := 2) C hS dL_law_882 dL_law_883 dL_law_884 dL_law_885 dL_law_886 (by decide) (by decide) ?_
  refine ldk (k := 3) C hS dL_law_887 dL_law_888 dL_law_889 dL_law_890 dL_law_891 (by decide) (by decide) ?_
  refine ldk (k := 4) C hS dL_law_892 dL_law_893 dL_law_894 dL_law_895 dL_law_896 (by decide) (by decide) ?_
  refine wtV (As := [.int (xs (i + 1)), .int (xs (i + 2)), .int (xs (i + 3)), .int (xs (i + 4))]) (rest := []) (ci := 4) (q0 := 0) (W1 := WL G ca ma rr sh sc RA SA R M B tc fl P K U (odG B M (xs (i + 1)) (xs (i + 2)) (xs (i + 3)) (xs (i + 4)) (nI M) tM) (odG B M (xs (i + 1)) (xs (i + 2)) (xs (i + 3)) (xs (i + 4)) (nI B) tB) (odG B M (xs (i + 1)) (xs (i + 2)) (xs (i + 3)) (xs (i + 4)) (opF P P2 M (2 ^ M)) P2) (odG B M (xs (i + 1)) (xs (i + 2)) (xs (i + 3)) (xs (i + 4)) K K2) (odG B M (xs (i + 1)) (xs (i + 2)) (xs (i + 3)) (xs (i + 4)) U U2) W1 N1 M1 K1 ln L F R M B tc fl SO SL CE mP mK mU at_ rM rB RP RK RB fb fto mW mN mM mQ MO MU) hE (kX4_odds l G (ca 0) (ca 1) (ca 5) (ca 9) (ca 10) R tc fl (ca 2) (ca 3) (ca 4) M B P K U (ca 6) (ca 7) (ca 8) tM tB P2 K2 U2 (xs (i + 1)) (xs (i + 2)) (xs (i + 3)) (xs (i + 4)) hM hB hz hub) (cwV 4 hts gL_law_X4_odds rfl rfl rfl (by decide +kernel) ⟨Nat.le_of_ble_eq_true rfl, Nat.le_of_ble_eq_true rfl⟩) hP hK hD hS [0, 1, 2, 3, 4, 5, 6, 7, 8] (by decide +kernel) rfl (Eq.trans (b := [ca 0, ca 1, ca 2, ca 3, ca 4, ca 5, ca 6, ca 7, ca 8]) rfl rfl) rfl rfl rfl rfl hl.1 rfl (Nat.le_of_ble_eq_true rfl) dL_law_897 hf0 (fun H locs hP hD hS => ?_)
  refine W.eq (g2 := F0 m 900 ls [.long (s_odds B M P U (xs (i + 1)) (xs (i + 2)) (xs (i + 3)) (xs (i + 4)))]) rfl ?_
  refine lv_aload_n hx hb dL_law_900 rfl (lv_at hl 1 rfl) ?_
  refine ldk (k := 1) C hS dL_law_901 dL_law_902 dL_law_903 dL_law_904 dL_law_905 (by decide) (by decide) ?_
  refine ldk (k := 2) C hS dL_law_906 dL_law_907 dL_law_908 dL_law_909 dL_law_910 (by decide) (by decide) ?_
  refine ldk (k := 3) C hS dL_law_911 dL_law_912 dL_law_913 dL_law_914 dL_law_915 (by decide) (by decide) ?_
  refine ldk (k := 4) C hS dL_law_916 dL_law_917 dL_law_918 dL_law_919 dL_law_920 (by decide) (by decide) ?_
  refine wtV (As := [.int (xs (i + 1)), .int (xs (i + 2)), .int (xs (i + 3)), .int (xs (i + 4))]) (rest := [.long (s_odds B M P U (xs (i + 1)) (xs (i + 2)) (xs (i + 3)) (xs (i + 4)))]) (ci := 5) (q0 := 27) (W1 := WL G ca ma rr sh sc RA SA R M B tc fl P K U (odG B M (xs (i + 1)) (xs (i + 2)) (xs (i + 3)) (xs (i + 4)) (nI M) tM) (odG B M (xs (i + 1)) (xs (i + 2)) (xs (i + 3)) (xs (i + 4)) (nI B) tB) (odG B M (xs (i + 1)) (xs (i + 2)) (xs (i + 3)) (xs (i + 4)) (opF P P2 M (2 ^ M)) P2) (odG B M (xs (i + 1)) (xs (i + 2)) (xs (i + 3)) (xs (i + 4)) K K2) (odG B M (xs (i + 1)) (xs (i + 2)) (xs (i + 3)) (xs (i + 4)) U U2) W1 N1 M1 K1 ln L F R M B tc fl SO SL CE mP mK mU at_ rM rB RP RK RB fb fto mW mN mM mQ (odG B M (xs (i + 1)) (xs (i + 2)) (xs (i + 3)) (xs (i + 4)) (moF mP MO M M) MO) (odG B M (xs (i + 1)) (xs (i + 2)) (xs (i + 3)) (xs (i + 4)) (muF mP MU M M) MU)) hE (kX5_odds l G (ma 0) fl tc (ma 1) (ma 2) (ma 3) M B (ma 4) (ma 5) (ma 6) at_ rM rB (ma 7) (ma 8) (ma 9) fb fto R (ma 10) (ma 11) (ma 12) (ma 13) (ma 14) (ma 15) mP mU MO MU (xs (i + 1)) (xs (i + 2)) (xs (i + 3)) (xs (i + 4)) hM hB hT.u) (cwV 4 hts gL_law_X5_odds rfl rfl rfl (by decide +kernel) ⟨Nat.le_of_ble_eq_true rfl, Nat.le_of_ble_eq_true rfl⟩) hP hK hD hS [27, 31, 33, 41, 42] (by decide +kernel) rfl (Eq.trans (b := [ma 0, ma 4, ma 6, ma 14, ma 15]) rfl rfl) rfl rfl rfl rfl hl.1 rfl (Nat.le_of_ble_eq_true rfl) dL_law_921 hf0 (fun H locs hP hD hS => ?_)
  refine W.eq (g2 := F0 m 924 ls [.long (s_odds B M mP mU (xs (i + 1)) (xs (i + 2)) (xs (i + 3)) (xs (i + 4))), .long (s_odds B M P U (xs (i + 1)) (xs (i + 2)) (xs (i + 3)) (xs (i + 4)))]) rfl ?_
  refine W.lcmp hx hb dL_law_924 ?_
  refine lv_if_eq (tgt := 1274) hx hb dL_law_925 (by decide) (fun _ => ?_) (fun c9 => absurd ((lg_cmp_eq _ _).mpr (q_odds hp hu hM hB hub (xs (i + 1)) (xs (i + 2)) (xs (i + 3)) (xs (i + 4)))) c9)
  exact hk _ _ _ _ _ _ _ _ _ _ _ _ _ _ _ _ _ _ _ _ _ _ _ _ _ _ _ _ _ _ _ _ _ _ _ _ _ _ _ _ H locs cells slots hr hP hD hS (by omega) (by omega)
set_option maxHeartbeats 4000000 in
set_option maxRecDepth 100000 in
theorem cs_tell {p : Program} {l : Launch} {e : Env} {s : State} {m : MethodId} {below : List Frame} {meth : Method} {c : Code} {Q : State → Prop} {b : Nat} {ls : Array Slot} {G : Gl} {ca ma rr sh sc : Nat → Nat} {RA SA : Nat → Option Nat} {L9 i : Nat} {xs : Nat → Int32} (C : LC p s m c b L9 i xs ls G ca ma rr sh RA SA) (hk : WW p l e s m below meth c Q b ls G ca ma rr sh sc RA SA 1274 (101 + i) (2005 + i)) : WW p l e s m below meth c Q b ls G ca ma rr sh sc RA SA 1146 (100 + i) (2000 + i) := by
  intro R M B tc fl P K U tM tB P2 K2 U2 W1 N1 M1 K1 ln L F SO SL CE mP mK mU at_ rM rB RP RK RB fb fto mW mN mM mQ MO MU H locs cells slots hr hP hD hS hcb hsb
  obtain ⟨hE, hX, hbl, hK, hRA, hSA, hi, hL9, hl⟩ := id C
  obtain ⟨hx, hb, hml, hown, hts⟩ := id hE
  obtain ⟨hT, hRr, hSs⟩ := id hr
  obtain ⟨hM, hB, hMB, hp, hz, h9, hkk, hkd, hu, hub⟩ := id hT
  have hf0 : cells + 0 ≤ room_1.cells ∧ slots + 0 ≤ room_1.slots := ⟨by show cells + 0 ≤ 600000; omega, by show slots + 0 ≤ 7302250; omega⟩
  have hc := kX5_tell l G (ma 0) fl tc (ma 1) (ma 2) (ma 3) M B (ma 4) (ma 5) (ma 6) at_ rM rB (ma 7) (ma 8) (ma 9) fb fto R (ma 10) (ma 11) (ma 12) (ma 13) (ma 14) (ma 15) mK mU (xs (i + 1)) hB
  rw [← q_ttell hkk hB] at hc
  refine lv_aload_n hx hb dL_law_1146 rfl (lv_at hl 2 rfl) ?_
  refine ldk (k := 1) C hS dL_law_1147 dL_law_1148 dL_law_1149 dL_law_1150 dL_law_1151 (by decide) (by decide) ?_
  refine wtV (As := [.int (xs (i + 1))]) (rest := []) (ci := 4) (q0 := 0) (W1 := WL G ca ma rr sh sc RA SA R M B (t_tell B K tc (xs (i + 1))) fl P K U tM tB P2 K2 U2 W1 N1 M1 K1 ln L F R M B tc fl SO SL CE mP mK mU at_ rM rB RP RK RB fb fto mW mN mM mQ MO MU) hE (kX4_tell l G (ca 0) (ca 1) (ca 5) (ca 9) (ca 10) R tc fl (ca 2) (ca 3) (ca 4) M B K U (xs (i + 1)) hB) (cwV 1 hts gL_law_X4_tell rfl rfl rfl (by decide +kernel) ⟨Nat.le_of_ble_eq_true rfl, Nat.le_of_ble_eq_true rfl⟩) hP hK hD hS [0, 1, 3, 4] (by decide +kernel) rfl (Eq.trans (b := [ca 0, ca 1, ca 3, ca 4]) rfl rfl) rfl rfl rfl rfl hl.1 rfl (Nat.le_of_ble_eq_true rfl) dL_law_1152 hf0 (fun H locs hP hD hS => ?_)
  refine W.eq (g2 := F0 m 1155 ls [.int (s_tell B K U (xs (i + 1)))]) rfl ?_
  refine lv_aload_n hx hb dL_law_1155 rfl (lv_at hl 1 rfl) ?_
  refine ldk (k := 1) C hS dL_law_1156 dL_law_1157 dL_law_1158 dL_law_1159 dL_law_1160 (by decide) (by decide) ?_
  refine wtV (As := [.int (xs (i + 1))]) (rest := [.int (s_tell B K U (xs (i + 1)))]) (ci := 5) (q0 := 27) (W1 := WL G ca ma rr sh sc RA SA R M B (t_tell B K tc (xs (i + 1))) fl P K U tM tB P2 K2 U2 W1 N1 M1 K1 ln L F R M B (t_tell B K tc (xs (i + 1))) fl SO SL CE mP mK mU at_ rM rB RP RK RB fb fto mW mN mM mQ MO MU) hE hc (cwV 1 hts gL_law_X5_tell rfl rfl rfl (by decide +kernel) ⟨Nat.le_of_ble_eq_true rfl, Nat.le_of_ble_eq_true rfl⟩) hP hK hD hS [27, 32, 33] (by decide +kernel) rfl (Eq.trans (b := [ma 0, ma 5, ma 6]) rfl rfl) rfl rfl rfl rfl hl.1 rfl (Nat.le_of_ble_eq_true rfl) dL_law_1161 hf0 (fun H locs hP hD hS => ?_)
  refine W.eq (g2 := F0 m 1164 ls [.int (s_tell B mK mU (xs (i + 1))), .int (s_tell B K U (xs (i + 1)))]) rfl ?_
  refine lv_icmp_eq (tgt := 1274) hx hb dL_law_1164 (by decide) (fun _ => ?_) (fun c9 => absurd (q_tell hkk hu hB (xs (i + 1))) c9)
  exact hk _ _ _ _ _ _ _ _ _ _ _ _ _ _ _ _ _ _ _ _ _ _ _ _ _ _ _ _ _ _ _ _ _ _ _ _ _ _ _ _ H locs cells slots hr hP hD hS (by omega) (by omega)
set_option maxHeartbeats 4000000 in
set_option maxRecDepth 100000 in
theorem cs_call {p : Program} {l : Launch} {e : Env} {s : State} {m : MethodId} {below : List Frame} {meth : Method} {c : Code} {Q : State → Prop} {b : Nat} {ls : Array Slot} {G : Gl} {ca ma rr sh sc : Nat → Nat} {RA SA : Nat → Option Nat} {L9 i : Nat} {xs : Nat → Int32} (C : LC p s m c b L9 i xs ls G ca ma rr sh RA SA) (hk : WW p l e s m below meth c Q b ls G ca ma rr sh sc RA SA 1274 (101 + i) (2005 + i)) : WW p l e s m below meth c Q b ls G ca ma rr sh sc RA SA 1169 (100 + i) (2000 + i) := by
  intro R M B tc fl P K U tM tB P2 K2 U2 W1 N1 M1 K1 ln L F SO SL CE mP mK mU at_ rM rB RP RK RB fb fto mW mN mM mQ MO MU H locs cells slots hr hP hD hS hcb hsb
  obtain ⟨hE, hX, hbl, hK, hRA, hSA, hi, hL9, hl⟩ := id C
  obtain ⟨hx, hb, hml, hown, hts⟩ := id hE
  obtain ⟨hT, hRr, hSs⟩ := id hr
  obtain ⟨hM, hB, hMB, hp, hz, h9, hkk, hkd, hu, hub⟩ := id hT
  have hf0 : cells + 0 ≤ room_1.cells ∧ slots + 0 ≤ room_1.slots := ⟨by show cells + 0 ≤ 600000; omega, by show slots + 0 ≤ 7302250; omega⟩
  have hc := kX5_call l G (ma 0) fl tc (ma 1) (ma 2) (ma 3) M B (ma 4) (ma 5) (ma 6) at_ rM rB (ma 7) (ma 8) (ma 9) fb fto R (ma 10) (ma 11) (ma 12) (ma 13) (ma 14) (ma 15) mK (xs (i + 1)) hB
  rw [← q_tcall hkk hB] at hc
  refine lv_aload_n hx hb dL_law_1169 rfl (lv_at hl 2 rfl) ?_
  refine ldk (k := 1) C hS dL_law_1170 dL_law_1171 dL_law_1172 dL_law_1173 dL_law_1174 (by decide) (by decide) ?_
  refine wtV (As := [.int (xs (i + 1))]) (rest := []) (ci := 4) (q0 := 0) (W1 := WL G ca ma rr sh sc RA SA R M B (t_call B K tc (xs (i + 1))) fl P K U tM tB P2 K2 U2 W1 N1 M1 K1 ln L F R M B tc fl SO SL CE mP mK mU at_ rM rB RP RK RB fb fto mW mN mM mQ MO MU) hE (kX4_call l G (ca 0) (ca 1) (ca 5) (ca 9) (ca 10) R tc fl (ca 2) (ca 3) (ca 4) M B K (xs (i + 1)) hB) (cwV 1 hts gL_law_X4_call rfl rfl rfl (by decide +kernel) ⟨Nat.le_of_ble_eq_true rfl, Nat.le_of_ble_eq_true rfl⟩) hP hK hD hS [0, 1, 3] (by decide +kernel) rfl (Eq.trans (b := [ca 0, ca 1, ca 3]) rfl rfl) rfl rfl rfl rfl hl.1 rfl (Nat.le_of_ble_eq_true rfl) dL_law_1175 hf0 (fun H locs hP hD hS => ?_)
  refine W.eq (g2 := F0 m 1178 ls [.int (s_call B K (xs (i + 1)))]) rfl ?_
  refine lv_aload_n hx hb dL_law_1178 rfl (lv_at hl 1 rfl) ?_
  refine ldk (k := 1) C hS dL_law_1179 dL_law_1180 dL_law_1181 dL_law_1182 dL_law_1183 (by decide) (by decide) ?_
  refine wtV (As := [.int (xs (i + 1))]) (rest := [.int (s_call B K (xs (i + 1)))]) (ci := 5) (q0 := 27) (W1 := WL G ca ma rr sh sc RA SA R M B (t_call B K tc (xs (i + 1))) fl P K U tM tB P2 K2 U2 W1 N1 M1 K1 ln L F R M B (t_call B K tc (xs (i + 1))) fl SO SL CE mP mK mU at_ rM rB RP RK RB fb fto mW mN mM mQ MO MU) hE hc (cwV 1 hts gL_law_X5_call rfl rfl rfl (by decide +kernel) ⟨Nat.le_of_ble_eq_true rfl, Nat.le_of_ble_eq_true rfl⟩) hP hK hD hS [27, 32] (by decide +kernel) rfl (Eq.trans (b := [ma 0, ma 5]) rfl rfl) rfl rfl rfl rfl hl.1 rfl (Nat.le_of_ble_eq_true rfl) dL_law_1184 hf0 (fun H locs hP hD hS => ?_)
  refine W.eq (g2 := F0 m 1187 ls [.int (s_call B mK (xs (i + 1))), .int (s_call B K (xs (i + 1)))]) rfl ?_
  refine lv_icmp_eq (tgt := 1274) hx hb dL_law_1187 (by decide) (fun _ => ?_) (fun c9 => absurd (q_call hkk hB (xs (i + 1))) c9)
  exact hk _ _ _ _ _ _ _ _ _ _ _ _ _ _ _ _ _ _ _ _ _ _ _ _ _ _ _ _ _ _ _ _ _ _ _ _ _ _ _ _ H locs cells slots hr hP hD hS (by omega) (by omega)
set_option maxHeartbeats 4000000 in
set_option maxRecDepth 100000 in
theorem cs_as {p : Program} {l : Launch} {e : Env} {s : State} {m : MethodId} {below : List Frame} {meth : Method} {c : Code} {Q : State → Prop} {b : Nat} {ls : Array Slot} {G : Gl} {ca ma rr sh sc : Nat → Nat} {RA SA : Nat → Option Nat} {L9 i : Nat} {xs : Nat → Int32} (C : LC p s m c b L9 i xs ls G ca ma rr sh RA SA) (hk : WW p l e s m below meth c Q b ls G ca ma rr sh sc RA SA 1274 (101 + i) (2005 + i)) : WW p l e s m below meth c Q b ls G ca ma rr sh sc RA SA 1192 (100 + i) (2000 + i) := by
  intro R M B tc fl P K U tM tB P2 K2 U2 W1 N1 M1 K1 ln L F SO SL CE mP mK mU at_ rM rB RP RK RB fb fto mW mN mM mQ MO MU H locs cells slots hr hP hD hS hcb hsb
  obtain ⟨hE, hX, hbl, hK, hRA, hSA, hi, hL9, hl⟩ := id C
  obtain ⟨hx, hb, hml, hown, hts⟩ := id hE
  obtain ⟨hT, hRr, hSs⟩ := id hr
  obtain ⟨hM, hB, hMB, hp, hz, h9, hkk, hkd, hu, hub⟩ := id hT
  have hf0 : cells + 0 ≤ room_1.cells ∧ slots + 0 ≤ room_1.slots := ⟨by show cells + 0 ≤ 600000; omega, by show slots + 0 ≤ 7302250; omega⟩
  have hc := kX5_as l G (ma 0) fl tc (ma 1) (ma 2) (ma 3) M B (ma 4) (ma 5) (ma 6) at_ rM rB (ma 7) (ma 8) (ma 9) fb fto R (ma 10) (ma 11) (ma 12) (ma 13) (ma 14) (ma 15) mK (xs (i + 1)) (xs (i + 2)) hB
  rw [← q_fas hkk hB] at hc
  refine lv_aload_n hx hb dL_law_1192 rfl (lv_at hl 2 rfl) ?_
  refine ldk (k := 1) C hS dL_law_1193 dL_law_1194 dL_law_1195 dL_law_1196 dL_law_1197 (by decide) (by decide) ?_
  refine ldk (k := 2) C hS dL_law_1198 dL_law_1199 dL_law_1200 dL_law_1201 dL_law_1202 (by decide) (by decide) ?_
  refine wtV (As := [.int (xs (i + 1)), .int (xs (i + 2))]) (rest := []) (ci := 4) (q0 := 0) (W1 := WL G ca ma rr sh sc RA SA R M B tc (f_as B K (xs (i + 1)) (xs (i + 2))) P K U tM tB P2 K2 U2 W1 N1 M1 K1 ln L F R M B tc fl SO SL CE mP mK mU at_ rM rB RP RK RB fb fto mW mN mM mQ MO MU) hE (kX4_as l G (ca 0) (ca 1) (ca 5) (ca 9) (ca 10) R tc fl (ca 2) (ca 3) (ca 4) M B K (xs (i + 1)) (xs (i + 2)) hB) (cwV 2 hts gL_law_X4_as rfl rfl rfl (by decide +kernel) ⟨Nat.le_of_ble_eq_true rfl, Nat.le_of_ble_eq_true rfl⟩) hP hK hD hS [0, 1, 3] (by decide +kernel) rfl (Eq.trans (b := [ca 0, ca 1, ca 3]) rfl rfl) rfl rfl rfl rfl hl.1 rfl (Nat.le_of_ble_eq_true rfl) dL_law_1203 hf0 (fun H locs hP hD hS => ?_)
  refine W.eq (g2 := F0 m 1206 ls [.int (s_as B K (xs (i + 1)) (xs (i + 2)))]) rfl ?_
  refine lv_aload_n hx hb dL_law_1206 rfl (lv_at hl 1 rfl) ?_
  refine ldk (k := 1) C hS dL_law_1207 dL_law_1208 dL_law_1209 dL_law_1210 dL_law_1211 (by decide) (by decide) ?_
  refine ldk (k := 2) C hS dL_law_1212 dL_law_1213 dL_law_1214 dL_law_1215 dL_law_1216 (by decide) (by decide) ?_
  refine wtV (As := [.int (xs (i + 1)), .int (xs (i + 2))]) (rest := [.int (s_as B K (xs (i + 1)) (xs (i + 2)))]) (ci := 5) (q0 := 27) (W1 := WL G ca ma rr sh sc RA SA R M B tc (f_as B K (xs (i + 1)) (xs (i + 2))) P K U tM tB P2 K2 U2 W1 N1 M1 K1 ln L F R M B tc (f_as B K (xs (i + 1)) (xs (i + 2))) SO SL CE mP mK mU at_ rM rB RP RK RB fb fto mW mN mM mQ MO MU) hE hc (cwV 2 hts gL_law_X5_as rfl rfl rfl (by decide +kernel) ⟨Nat.le_of_ble_eq_true rfl, Nat.le_of_ble_eq_true rfl⟩) hP hK hD hS [27, 32] (by decide +kernel) rfl (Eq.trans (b := [ma 0, ma 5]) rfl rfl) rfl rfl rfl rfl hl.1 rfl (Nat.le_of_ble_eq_true rfl) dL_law_1217 hf0 (fun H locs hP hD hS => ?_)
  refine W.eq (g2 := F0 m 1220 ls [.int (s_as B mK (xs (i + 1)) (xs (i + 2))), .int (s_as B K (xs (i + 1)) (xs (i + 2)))]) rfl ?_
  refine lv_icmp_eq (tgt := 1274) hx hb dL_law_1220 (by decide) (fun _ => ?_) (fun c9 => absurd (q_as hkk hB (xs (i + 1)) (xs (i + 2))) c9)
  exact hk _ _ _ _ _ _ _ _ _ _ _ _ _ _ _ _ _ _ _ _ _ _ _ _ _ _ _ _ _ _ _ _ _ _ _ _ _ _ _ _ H locs cells slots hr hP hD hS (by omega) (by omega)
set_option maxHeartbeats 4000000 in
set_option maxRecDepth 100000 in
theorem cs_trace {p : Program} {l : Launch} {e : Env} {s : State} {m : MethodId} {below : List Frame} {meth : Method} {c : Code} {Q : State → Prop} {b : Nat} {ls : Array Slot} {G : Gl} {ca ma rr sh sc : Nat → Nat} {RA SA : Nat → Option Nat} {L9 i : Nat} {xs : Nat → Int32} (C : LC p s m c b L9 i xs ls G ca ma rr sh RA SA) (hk : WW p l e s m below meth c Q b ls G ca ma rr sh sc RA SA 1274 (101 + i) (2005 + i)) : WW p l e s m below meth c Q b ls G ca ma rr sh sc RA SA 1225 (100 + i) (2000 + i) := by
  intro R M B tc fl P K U tM tB P2 K2 U2 W1 N1 M1 K1 ln L F SO SL CE mP mK mU at_ rM rB RP RK RB fb fto mW mN mM mQ MO MU H locs cells slots hr hP hD hS hcb hsb
  obtain ⟨hE, hX, hbl, hK, hRA, hSA, hi, hL9, hl⟩ := id C
  obtain ⟨hx, hb, hml, hown, hts⟩ := id hE
  obtain ⟨hT, hRr, hSs⟩ := id hr
  obtain ⟨hM, hB, hMB, hp, hz, h9, hkk, hkd, hu, hub⟩ := id hT
  have hf0 : cells + 0 ≤ room_1.cells ∧ slots + 0 ≤ room_1.slots := ⟨by show cells + 0 ≤ 600000; omega, by show slots + 0 ≤ 7302250; omega⟩
  refine lv_aload_n hx hb dL_law_1225 rfl (lv_at hl 2 rfl) ?_
  refine rdV (As := []) (rest := []) (ci := 4) (q0 := 0) hE (kX4_trace l G (ca 0) (ca 1) (ca 5) (ca 9) (ca 10) R tc fl) (cwV 0 hts gL_law_X4_trace rfl rfl rfl (by decide +kernel) ⟨Nat.le_of_ble_eq_true rfl, Nat.le_of_ble_eq_true rfl⟩) hP hK [0] rfl rfl rfl rfl hl.1 rfl (Nat.le_of_ble_eq_true rfl) dL_law_1226 hf0 ?_
  refine W.eq (g2 := F0 m 1229 ls [.int tc]) rfl ?_
  refine lv_aload_n hx hb dL_law_1229 rfl (lv_at hl 1 rfl) ?_
  refine rdV (As := []) (rest := [.int tc]) (ci := 5) (q0 := 27) hE (kX5_trace l G (ma 0) fl tc (ma 1) (ma 2) (ma 3) M B (ma 4) (ma 5) (ma 6) at_ rM rB (ma 7) (ma 8) (ma 9) fb fto R (ma 10) (ma 11) (ma 12) (ma 13) (ma 14) (ma 15)) (cwV 0 hts gL_law_X5_trace rfl rfl rfl (by decide +kernel) ⟨Nat.le_of_ble_eq_true rfl, Nat.le_of_ble_eq_true rfl⟩) hP hK [27] rfl rfl rfl rfl hl.1 rfl (Nat.le_of_ble_eq_true rfl) dL_law_1230 hf0 ?_
  refine W.eq (g2 := F0 m 1233 ls [.int tc, .int tc]) rfl ?_
  refine lv_icmp_eq (tgt := 1274) hx hb dL_law_1233 (by decide) (fun _ => ?_) (fun c9 => absurd rfl c9)
  exact hk _ _ _ _ _ _ _ _ _ _ _ _ _ _ _ _ _ _ _ _ _ _ _ _ _ _ _ _ _ _ _ _ _ _ _ _ _ _ _ _ H locs cells slots hr hP hD hS (by omega) (by omega)
set_option maxHeartbeats 4000000 in
set_option maxRecDepth 100000 in
theorem cs_fault {p : Program} {l : Launch} {e : Env} {s : State} {m : MethodId} {below : List Frame} {meth : Method} {c : Code} {Q : State → Prop} {b : Nat} {ls : Array Slot} {G : Gl} {ca ma rr sh sc : Nat → Nat} {RA SA : Nat → Option Nat} {L9 i : Nat} {xs : Nat → Int32} (C : LC p s m c b L9 i xs ls G ca ma rr sh RA SA) (hk : WW p l e s m below meth c Q b ls G ca ma rr sh sc RA SA 1274 (101 + i) (2005 + i)) : WW p l e s m below meth c Q b ls G ca ma rr sh sc RA SA 1238 (100 + i) (2000 + i) := by
  intro R M B tc fl P K U tM tB P2 K2 U2 W1 N1 M1 K1 ln L F SO SL CE mP mK mU at_ rM rB RP RK RB fb fto mW mN mM mQ MO MU H locs cells slots hr hP hD hS hcb hsb
  obtain ⟨hE, hX, hbl, hK, hRA, hSA, hi, hL9, hl⟩ := id C
  obtain ⟨hx, hb, hml, hown, hts⟩ := id hE
  obtain ⟨hT, hRr, hSs⟩ := id hr
  obtain ⟨hM, hB, hMB, hp, hz, h9, hkk, hkd, hu, hub⟩ := id hT
  have hf0 : cells + 0 ≤ room_1.cells ∧ slots + 0 ≤ room_1.slots := ⟨by show cells + 0 ≤ 600000; omega, by show slots + 0 ≤ 7302250; omega⟩
  refine lv_aload_n hx hb dL_law_1238 rfl (lv_at hl 2 rfl) ?_
  refine rdV (As := []) (rest := []) (ci := 4) (q0 := 0) hE (kX4_fault l G (ca 0) (ca 1) (ca 5) (ca 9) (ca 10) R tc fl) (cwV 0 hts gL_law_X4_fault rfl rfl rfl (by decide +kernel) ⟨Nat.le_of_ble_eq_true rfl, Nat.le_of_ble_eq_true rfl⟩) hP hK [0] rfl rfl rfl rfl hl.1 rfl (Nat.le_of_ble_eq_true rfl) dL_law_1239 hf0 ?_
  refine W.eq (g2 := F0 m 1242 ls [.int fl]) rfl ?_
  refine lv_aload_n hx hb dL_law_1242 rfl (lv_at hl 1 rfl) ?_
  refine rdV (As := []) (rest := [.int fl]) (ci := 5) (q0 := 27) hE (kX5_fault l G (ma 0) fl tc (ma 1) (ma 2) (ma 3) M B (ma 4) (ma 5) (ma 6) at_ rM rB (ma 7) (ma 8) (ma 9) fb fto R (ma 10) (ma 11) (ma 12) (ma 13) (ma 14) (ma 15)) (cwV 0 hts gL_law_X5_fault rfl rfl rfl (by decide +kernel) ⟨Nat.le_of_ble_eq_true rfl, Nat.le_of_ble_eq_true rfl⟩) hP hK [27] rfl rfl rfl rfl hl.1 rfl (Nat.le_of_ble_eq_true rfl) dL_law_1243 hf0 ?_
  refine W.eq (g2 := F0 m 1246 ls [.int fl, .int fl]) rfl ?_
  refine lv_icmp_eq (tgt := 1274) hx hb dL_law_1246 (by decide) (fun _ => ?_) (fun c9 => absurd rfl c9)
  exact hk _ _ _ _ _ _ _ _ _ _ _ _ _ _ _ _ _ _ _ _ _ _ _ _ _ _ _ _ _ _ _ _ _ _ _ _ _ _ _ _ H locs cells slots hr hP hD hS (by omega) (by omega)
set_option maxHeartbeats 4000000 in
set_option maxRecDepth 100000 in
theorem cs_many {p : Program} {l : Launch} {e : Env} {s : State} {m : MethodId} {below : List Frame} {meth : Method} {c : Code} {Q : State → Prop} {b : Nat} {ls : Array Slot} {G : Gl} {ca ma rr sh sc : Nat → Nat} {RA SA : Nat → Option Nat} {L9 i : Nat} {xs : Nat → Int32} (C : LC p s m c b L9 i xs ls G ca ma rr sh RA SA) (hk : WW p l e s m below meth c Q b ls G ca ma rr sh sc RA SA 1274 (101 + i) (2005 + i)) : WW p l e s m below meth c Q b ls G ca ma rr sh sc RA SA 1251 (100 + i) (2000 + i) := by
  intro R M B tc fl P K U tM tB P2 K2 U2 W1 N1 M1 K1 ln L F SO SL CE mP mK mU at_ rM rB RP RK RB fb fto mW mN mM mQ MO MU H locs cells slots hr hP hD hS hcb hsb
  obtain ⟨hE, hX, hbl, hK, hRA, hSA, hi, hL9, hl⟩ := id C
  obtain ⟨hx, hb, hml, hown, hts⟩ := id hE
  obtain ⟨hT, hRr, hSs⟩ := id hr
  obtain ⟨hM, hB, hMB, hp, hz, h9, hkk, hkd, hu, hub⟩ := id hT
  have hf0 : cells + 0 ≤ room_1.cells ∧ slots + 0 ≤ room_1.slots := ⟨by show cells + 0 ≤ 600000; omega, by show slots + 0 ≤ 7302250; omega⟩
  refine lv_aload_n hx hb dL_law_1251 rfl (lv_at hl 2 rfl) ?_
  refine ldk (k := 1) C hS dL_law_1252 dL_law_1253 dL_law_1254 dL_law_1255 dL_law_1256 (by decide) (by decide) ?_
  refine rdV (As := [.int (xs (i + 1))]) (rest := []) (ci := 4) (q0 := 0) hE (kX4_many l G (ca 0) (ca 1) (ca 5) (ca 9) (ca 10) R tc fl (ca 2) (ca 3) (ca 4) M B (xs (i + 1))) (cwV 1 hts gL_law_X4_many rfl rfl rfl (by decide +kernel) ⟨Nat.le_of_ble_eq_true rfl, Nat.le_of_ble_eq_true rfl⟩) hP hK [0, 1] rfl rfl rfl rfl hl.1 rfl (Nat.le_of_ble_eq_true rfl) dL_law_1257 hf0 ?_
  refine W.eq (g2 := F0 m 1260 ls [.int (s_many B M R (xs (i + 1)))]) rfl ?_
  refine lv_aload_n hx hb dL_law_1260 rfl (lv_at hl 1 rfl) ?_
  refine ldk (k := 1) C hS dL_law_1261 dL_law_1262 dL_law_1263 dL_law_1264 dL_law_1265 (by decide) (by decide) ?_
  refine rdV (As := [.int (xs (i + 1))]) (rest := [.int (s_many B M R (xs (i + 1)))]) (ci := 5) (q0 := 27) hE (kX5_many l G (ma 0) fl tc (ma 1) (ma 2) (ma 3) M B (ma 4) (ma 5) (ma 6) at_ rM rB (ma 7) (ma 8) (ma 9) fb fto R (ma 10) (ma 11) (ma 12) (ma 13) (ma 14) (ma 15) (xs (i + 1))) (cwV 1 hts gL_law_X5_many rfl rfl rfl (by decide +kernel) ⟨Nat.le_of_ble_eq_true rfl, Nat.le_of_ble_eq_true rfl⟩) hP hK [27] rfl rfl rfl rfl hl.1 rfl (Nat.le_of_ble_eq_true rfl) dL_law_1266 hf0 ?_
  refine W.eq (g2 := F0 m 1269 ls [.int (s_many B M R (xs (i + 1))), .int (s_many B M R (xs (i + 1)))]) rfl ?_
  refine lv_icmp_eq (tgt := 1274) hx hb dL_law_1269 (by decide) (fun _ => ?_) (fun c9 => absurd rfl c9)
  exact hk _ _ _ _ _ _ _ _ _ _ _ _ _ _ _ _ _ _ _ _ _ _ _ _ _ _ _ _ _ _ _ _ _ _ _ _ _ _ _ _ H locs cells slots hr hP hD hS (by omega) (by omega)
