/-! ===== equal answers where a sheet is named ===== -/
theorem wkv_g {P : Nat → Int32} {M u n : Nat} {g g2 : Nat → Int32} (h : ∀ t, t < n → g t = g2 t) : wkv P M u g n = wkv P M u g2 n := by
  unfold wkv
  rw [fi_congr (p := fun t => ¬ vp_in (g t) M) (q := fun t => ¬ vp_in (g2 t) M) (fun k hk => by rw [h k hk]), fi_congr (p := fun t => ¬ g t = nI (wh P M u t)) (q := fun t => ¬ g2 t = nI (wh P M u t)) (fun k hk => by rw [h k hk])]
section LWA
variable {M B : Nat} {P K U mP mK mU F SO SL CE : Nat → Int32} {ln : Int32} {L L1 j : Nat} {k : Int32}
theorem a_tn (hj : ∀ i, i < 4 → k = nI i → i = j) (c : vp_in k 4) : tn k = j := by
  obtain ⟨a, ha, rfl⟩ := vp_in_of c (by decide)
  rw [tn_nI (by omega)]; exact hj a ha rfl
theorem a_ft (hS : RelS j ln L F SO SL CE) (hL1 : ln ≠ (-1) → L = L1) (hj : ∀ i, i < 4 → k = nI i → i = j) (c : vp_in k 4) (lane i n : Int32) : ft (-1) ln L lane i n = ft (-9) (SO (tn k)) L1 lane i n := by
  rw [a_tn hj c]; exact q_ft hS.2.1 hL1 lane i n
theorem a_fwalk (hS : RelS j ln L F SO SL CE) (hL1 : ln ≠ (-1) → L = L1) (hj : ∀ i, i < 4 → k = nI i → i = j) (b lane i n : Int32) : f_walk B (ft (-1) ln L lane i n) b k lane n = f_walk B (ft (-9) (SO (tn k)) L1 lane i n) b k lane n :=
  q_iF (fun _ => q_iF (fun c => by rw [a_ft hS hL1 hj c lane i n]))
theorem a_at (hS : RelS j ln L F SO SL CE) (hj : ∀ i, i < 4 → k = nI i → i = j) (c : vp_in k 4) {lane i n : Int32} (h0 : ft (-1) ln L lane i n = 0) : ∀ t, t < tn n → F (tn i + t) = CE (60 * tn k + tn i + t) := by
  obtain ⟨g1, g2, g3⟩ := ft_hc h0
  obtain ⟨h1, h2, h3, h6⟩ := hS
  obtain ⟨a, b, rfl, rfl, hab⟩ := hc_of g3 (by omega)
  rw [tn_nI (show a < 2 ^ 31 by omega), tn_nI (show b < 2 ^ 31 by omega), a_tn hj c]
  intro t ht
  rw [h6 g1 _ (by omega), Nat.add_assoc]
theorem a_walk (hT : RelT M B P K U mP mK mU) (hS : RelS j ln L F SO SL CE) (hL1 : ln ≠ (-1) → L = L1) (hj : ∀ i, i < 4 → k = nI i → i = j) (b lane i n : Int32) : s_walk B M P U (fun t => F (tn i + t)) (ft (-1) ln L lane i n) b k lane n = s_walk B M mP mU (fun t => CE (60 * tn k + tn i + t)) (ft (-9) (SO (tn k)) L1 lane i n) b k lane n := by
  obtain ⟨hM, hB, hMB, hp, hz, h9, hk, hkd, hu, hub⟩ := hT
  rw [← q_walk hp hu hM hB hub]
  exact q_iF (fun hb => q_iF (fun c => q_iF (fun _ => q_iF (fun _ => by
    rw [← a_ft hS hL1 hj c lane i n]
    exact q_iF (fun h0 => wkv_g (a_at hS hj c h0))))))
theorem a_fcell (hS : RelS j ln L F SO SL CE) (hL1 : ln ≠ (-1) → L = L1) (hj : ∀ i, i < 4 → k = nI i → i = j) (lane i n : Int32) : f_cell (ft (-1) ln L lane i n) k lane = f_cell (ft (-9) (SO (tn k)) L1 lane i n) k lane :=
  q_iF (fun c => by rw [a_ft hS hL1 hj c lane i n])
theorem a_cell (hS : RelS j ln L F SO SL CE) (hL1 : ln ≠ (-1) → L = L1) (hj : ∀ i, i < 4 → k = nI i → i = j) (lane i : Int32) : s_cell (ft (-1) ln L lane i (nI 1)) (F (tn i)).toInt64 k lane = s_cell (ft (-9) (SO (tn k)) L1 lane i (nI 1)) (CE (60 * tn k + tn i)).toInt64 k lane :=
  q_iF (fun c => q_iF (fun _ => by
    rw [← a_ft hS hL1 hj c lane i (nI 1)]
    exact q_iF (fun h0 => congrArg Int32.toInt64 (a_at hS hj c h0 0 (by decide)))))
theorem a_eqK (hS : RelS j ln L F SO SL CE) (hj : ∀ i, i < 4 → k = nI i → i = j) (c : vp_in k 4) : eqK ln (SO (tn k)) := by
  rw [a_tn hj c]; exact hS.2.1
theorem a_put (hS : RelS j ln L F SO SL CE) (hL1 : ln ≠ (-1) → L = L1) (hj : ∀ i, i < 4 → k = nI i → i = j) (i : Int32) : s_put (-1) ln L k i = s_put (-9) (SO (tn k)) L1 k i := by
  by_cases c : vp_in k 4
  · exact q_put (a_eqK hS hj c) hL1 k i
  · simp only [s_put, iF_f c]
theorem a_fput (hS : RelS j ln L F SO SL CE) (hL1 : ln ≠ (-1) → L = L1) (hj : ∀ i, i < 4 → k = nI i → i = j) (i : Int32) : f_put (-1) ln L k i = f_put (-9) (SO (tn k)) L1 k i := by
  by_cases c : vp_in k 4
  · exact q_fput (a_eqK hS hj c) hL1 k i
  · simp only [f_put, iF_f c]
theorem a_lose (hS : RelS j ln L F SO SL CE) (hj : ∀ i, i < 4 → k = nI i → i = j) : s_lose (-1) ln k = s_lose (-9) (SO (tn k)) k := by
  by_cases c : vp_in k 4
  · exact q_lose (a_eqK hS hj c) k
  · simp only [s_lose, iF_f c]
variable {F2 : Nat → Int32} {ln2 u : Int32} {L2 L3 j2 : Nat}
theorem a_copy (hS : RelS j ln L F SO SL CE) (hS2 : RelS j2 ln2 L2 F2 SO SL CE) (hL1 : ln ≠ (-1) → L = L1) (hL2 : ln2 ≠ (-1) → L2 = L3) (hj : ∀ i, i < 4 → k = nI i → i = j) (hj2 : ∀ i, i < 4 → u = nI i → i = j2) (i o n : Int32) : s_copy (-1) ln ln2 L L2 k u i o n = s_copy (-9) (SO (tn k)) (SO (tn u)) L1 L3 k u i o n := by
  by_cases c : vp_in k 4
  · by_cases c2 : vp_in u 4
    · exact q_copy (a_eqK hS hj c) (a_eqK hS2 hj2 c2) hL1 hL2 k u i o n
    · simp only [s_copy, iF_t c, iF_f c2]
  · simp only [s_copy, iF_f c]
theorem a_fcopy (hS : RelS j ln L F SO SL CE) (hS2 : RelS j2 ln2 L2 F2 SO SL CE) (hL1 : ln ≠ (-1) → L = L1) (hL2 : ln2 ≠ (-1) → L2 = L3) (hj : ∀ i, i < 4 → k = nI i → i = j) (hj2 : ∀ i, i < 4 → u = nI i → i = j2) (i o n : Int32) : f_copy (-1) ln ln2 L L2 k u i o n = f_copy (-9) (SO (tn k)) (SO (tn u)) L1 L3 k u i o n := by
  by_cases c : vp_in k 4
  · by_cases c2 : vp_in u 4
    · exact q_fcopy (a_eqK hS hj c) (a_eqK hS2 hj2 c2) hL1 hL2 k u i o n
    · simp only [f_copy, iF_t c, iF_f c2]
  · simp only [f_copy, iF_f c]
end LWA
theorem k_FF {ln SO SL CE FF : Nat → Int32} {L : Nat → Nat} {F : Nat → Nat → Int32} {j : Nat} (hS : ∀ q, q < 4 → RelS q (ln q) (L q) (F q) SO SL CE) (hF : ∀ t, t < 60 → FF t = CE (60 * j + t)) : ∀ q, q < 4 → RelS q (ln q) (L q) (va_up F j FF q) SO SL CE := by
  intro q hq
  obtain ⟨h1, h2, h3, h6⟩ := hS q hq
  refine ⟨h1, h2, h3, fun hn t ht => ?_⟩
  by_cases e : q = j
  · subst e; rw [va_up_self]; exact hF t ht
  · rw [va_up_ne _ _ e]; exact h6 hn t ht
theorem rd_num (R : Nat) : ∃ j, j < 8 ∧ (R < 8 → R = j) := by
  by_cases c : R < 8
  · exact ⟨R, c, fun _ => rfl⟩
  · exact ⟨0, by decide, fun h => absurd h c⟩
theorem and31 (x : Int32) : ∃ t, t < 32 ∧ x &&& 31 = nI t := by
  refine ⟨(x.toBitVec &&& 31#32).toNat, ?_, ?_⟩
  · rw [BitVec.toNat_and]; exact Nat.lt_of_le_of_lt Nat.and_le_right (by decide)
  · apply Int32.toBitVec_inj.mp
    rw [Int32.toBitVec_and]
    show x.toBitVec &&& 31#32 = BitVec.ofNat 32 (x.toBitVec &&& 31#32).toNat
    rw [BitVec.ofNat_toNat, BitVec.setWidth_eq]
theorem gt6 {L i : Nat} (hL : L ≤ 384) (hi : i ≤ 384) : nI L - nI 6 < nI i ↔ L < i + 6 := by
  by_cases h : 6 ≤ L
  · have e : nI L - nI 6 = nI (L - 6) := by
      have : nI L = nI (L - 6) + nI 6 := by rw [nI_add, Nat.sub_add_cancel h]
      rw [this, Int32.add_sub_cancel]
    rw [e, nI_ltI (by omega) (by omega)]
    omega
  · have e : nI L - nI 6 < 0 := by
      rcases (show L = 0 ∨ L = 1 ∨ L = 2 ∨ L = 3 ∨ L = 4 ∨ L = 5 by omega) with rfl | rfl | rfl | rfl | rfl | rfl <;> decide
    exact ⟨fun _ => by omega, fun _ => Int32.lt_of_lt_of_le e (nI_pos' (by omega))⟩
