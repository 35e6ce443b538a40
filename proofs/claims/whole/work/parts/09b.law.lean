/-! ===== what a good town's text and the sheets' calls keep ===== -/
section LWT
variable {P K U mP mK mU RP RK RB CE : Nat → Int32} {M B n f0 : Nat}
theorem kd_le {k : Nat} (h : k ≤ 2) : kd (nI k) := by
  rcases (show k = 0 ∨ k = 1 ∨ k = 2 by omega) with rfl | rfl | rfl
  · exact Or.inl rfl
  · exact Or.inr (Or.inl rfl)
  · exact Or.inr (Or.inr rfl)
theorem k_town (h : okT (fun t => CE (f0 + t)) M n) (hM2 : 2 ≤ M) (hM : M ≤ 5) (hBn : B = (n - (2 + M * (M + 1))) / 3) : RelT M B (spO P (fun t => CE (f0 + t)) M M) (skK K (fun t => CE (f0 + t)) M B) (skU U (fun t => CE (f0 + t)) M B) (cpA mP (rtP RP CE M f0 M) 25) (cpA mK (rtK RK CE (f0 + (2 + M * (M + 1))) B) B) (cpA mU (rtB RB CE (f0 + (2 + M * (M + 1))) B) B) := by
  have hB4 := ok_B h hM2 hM
  have hB1 := (ok_n h).2
  rw [← hBn] at hB4 hB1
  have hK : ∀ b, b < B → skK K (fun t => CE (f0 + t)) M B b = nI (k9 (CE (f0 + (2 + M * (M + 1) + 3 * b + 1)))) ∧ k9 (CE (f0 + (2 + M * (M + 1) + 3 * b + 1))) ≤ 2 := fun b hb => by
    have := tw_K (K := K) h hM2 hM (b := b) (by omega)
    rw [← hBn] at this
    exact this
  have hU : ∀ b, b < B → skU U (fun t => CE (f0 + t)) M B b = nI (d9 (CE (f0 + (2 + M * (M + 1) + 3 * b + 2)))) ∧ d9 (CE (f0 + (2 + M * (M + 1) + 3 * b + 2))) < M := fun b hb => by
    have := tw_U (K := U) h hM2 hM (b := b) (by omega)
    rw [← hBn] at this
    exact this
  refine ⟨hM, hB4, Or.inr ⟨hM2, hB1⟩, fun a b ha hb => ?_, fun j hj => ?_, fun a c ha hc => ?_, fun b hb => ?_, fun b hb => ?_, fun b hb => ?_, fun b hb => ?_⟩
  · rw [(tw_P (P := P) h hM2 hM ha hb).1, cpA_in (by omega), rtP_at hM ha hb]
    show nI (d9 (CE (f0 + (2 + a * (M + 1) + 1 + b)))) = _
    rw [show f0 + (2 + a * (M + 1) + 1 + b) = f0 + 2 + a * (M + 1) + 1 + b by omega]
  · obtain ⟨h1, h2, h3⟩ := tw_P (P := P) h hM2 hM hj hj
    rw [h1, h3 rfl]
  · obtain ⟨h1, h2, h3⟩ := tw_P (P := P) h hM2 hM ha hc
    rw [h1]; exact vp_in_nI (by omega) (by decide)
  · rw [(hK b hb).1, cpA_in hb, rtK_at hb, show f0 + (2 + M * (M + 1) + 3 * b + 1) = f0 + (2 + M * (M + 1)) + 3 * b + 1 by omega]
  · rw [(hK b hb).1]; exact kd_le (hK b hb).2
  · rw [(hU b hb).1, cpA_in hb, rtB_at hb, show f0 + (2 + M * (M + 1) + 3 * b + 2) = f0 + (2 + M * (M + 1)) + 3 * b + 2 by omega]
  · rw [(hU b hb).1]; exact vp_in_nI (hU b hb).2 (by omega)
end LWT
theorem zr_at {f : Nat → Int32} : ∀ {n i : Nat}, i < n → zr f n i = nI 0
  | n + 1, i, h => by
    show upd (zr f n) n (nI 0) i = nI 0
    by_cases e : i = n
    · rw [e, up_s]
    · rw [up_o e]; exact zr_at (by omega)
theorem zrm_at {f : Nat → Int32} {k : Nat} : ∀ {n i : Nat}, i < n → zrm f k n (60 * k + i) = nI 0
  | n + 1, i, h => by
    show upd (zrm f k n) (60 * k + n) (nI 0) (60 * k + i) = nI 0
    by_cases e : i = n
    · rw [e, up_s]
    · rw [up_o (by omega)]; exact zrm_at (by omega)
theorem zrm_off {f : Nat → Int32} {k q : Nat} : ∀ {n : Nat}, (∀ i, i < n → q ≠ 60 * k + i) → zrm f k n q = f q
  | 0, _ => rfl
  | n + 1, h => by
    show upd (zrm f k n) (60 * k + n) (nI 0) q = f q
    rw [up_o (h n (by omega))]; exact zrm_off (fun i hi => h i (by omega))
theorem n60 {n : Int32} (h1 : n ≤ nI 60) (h2 : ¬ n < 0) : tn n ≤ 60 ∧ n = nI (tn n) := by
  obtain ⟨j, rfl, -, hj⟩ := rng_of (x := n) (a := 0) (b := 60) (by decide) (by decide) h2 (Int32.not_lt.mpr h1)
  rw [tn_nI (by omega)]
  exact ⟨hj, rfl⟩
section LWS
variable {ln SO SL CE : Nat → Int32} {L : Nat → Nat} {F : Nat → Nat → Int32} {j : Nat} {k : Int32}
theorem k_sheet (hS : ∀ q, q < 4 → RelS q (ln q) (L q) (F q) SO SL CE) (hj : ∀ i, i < 4 → k = nI i → i = j) (lane n : Int32) : ∀ q, q < 4 → RelS q (upd ln j (shG k lane n lane (ln j)) q) (va_up L j (shG k lane n (tn n) (L j)) q) (va_up F j (shG k lane n (zr (F j) 60) (F j)) q) (shG k lane n (upd SO (tn k) lane) SO) (shG k lane n (upd SL (tn k) n) SL) (shG k lane n (zrm CE (tn k) 60) CE) := by
  by_cases c1 : vp_in k 4
  · by_cases c2 : vp_in lane (2 + 1)
    · by_cases c3 : n ≤ nI 60
      · by_cases c4 : n < 0
        · simp only [shG, iF_t c1, iF_t c2, iF_t c3, iF_t c4, upd_id, va_up_id]; exact hS
        · simp only [shG, iF_t c1, iF_t c2, iF_t c3, iF_f c4]
          obtain ⟨i, hi, rfl⟩ := vp_in_of c1 (by decide)
          have e := hj i hi rfl
          subst e
          rw [tn_nI (by omega)]
          obtain ⟨n1, n2⟩ := n60 c3 c4
          intro q hq
          by_cases e : q = i
          · subst e
            rw [up_s, va_up_self, va_up_self]
            refine ⟨n1, Or.inr ⟨(in_ne c2).1, ?_, ?_⟩, ⟨tn n, n1, ?_, fun _ => rfl⟩, fun _ t ht => ?_⟩
            · rw [up_s]; exact (in_ne c2).2
            · rw [up_s]
            · rw [up_s]; exact n2
            · rw [zr_at ht, zrm_at ht]
          · rw [up_o e, va_up_ne _ _ e, va_up_ne _ _ e]
            obtain ⟨h1, h2, ⟨L1, h3, h4, h5⟩, h6⟩ := hS q hq
            refine ⟨h1, by rw [up_o e]; exact h2, ⟨L1, h3, by rw [up_o e]; exact h4, h5⟩, fun hn t ht => ?_⟩
            rw [zrm_off (fun t2 ht2 => by omega)]; exact h6 hn t ht
      · simp only [shG, iF_t c1, iF_t c2, iF_f c3, upd_id, va_up_id]; exact hS
    · simp only [shG, iF_t c1, iF_f c2, upd_id, va_up_id]; exact hS
  · simp only [shG, iF_f c1, upd_id, va_up_id]; exact hS
theorem shG_L (k lane n : Int32) (L : Nat) : shG k lane n n (nI L) = nI (shG k lane n (tn n) L) := by
  unfold shG
  by_cases c1 : vp_in k 4
  · by_cases c2 : vp_in lane (2 + 1)
    · by_cases c3 : n ≤ nI 60
      · by_cases c4 : n < 0
        · simp only [iF_t c1, iF_t c2, iF_t c3, iF_t c4]
        · simp only [iF_t c1, iF_t c2, iF_t c3, iF_f c4]; exact (n60 c3 c4).2
      · simp only [iF_t c1, iF_t c2, iF_f c3]
    · simp only [iF_t c1, iF_f c2]
  · simp only [iF_f c1]
theorem lsG_L (ln k : Int32) (L : Nat) : lsG (-1) ln k (nI 0) (nI L) = nI (lsG (-1) ln k 0 L) := by
  unfold lsG
  by_cases c1 : vp_in k 4
  · by_cases c2 : ln = (-1)
    · simp only [iF_t c1, iF_t c2]
    · simp only [iF_t c1, iF_f c2]
  · simp only [iF_f c1]
theorem k_lose (hS : ∀ q, q < 4 → RelS q (ln q) (L q) (F q) SO SL CE) (hj : ∀ i, i < 4 → k = nI i → i = j) : ∀ q, q < 4 → RelS q (upd ln j (lsG (-1) (ln j) k (-1) (ln j)) q) (va_up L j (lsG (-1) (ln j) k 0 (L j)) q) (va_up F j (lsG (-1) (ln j) k (zr (F j) 60) (F j)) q) (iF (vp_in k 4) (upd SO (tn k) (-9)) SO) SL CE := by
  by_cases c1 : vp_in k 4
  · obtain ⟨i, hi, rfl⟩ := vp_in_of c1 (by decide)
    have e := hj i hi rfl
    subst e
    by_cases c2 : ln i = (-1)
    · simp only [lsG, iF_t c1, iF_t c2, upd_id, va_up_id]
      rw [tn_nI (by omega)]
      intro q hq
      by_cases e : q = i
      · subst e
        obtain ⟨h1, h2, h3, h6⟩ := hS q hq
        exact ⟨h1, Or.inl ⟨c2, up_s⟩, h3, h6⟩
      · obtain ⟨h1, h2, h3, h6⟩ := hS q hq
        exact ⟨h1, by rw [up_o e]; exact h2, h3, h6⟩
    · simp only [lsG, iF_t c1, iF_f c2]
      rw [tn_nI (by omega)]
      intro q hq
      by_cases e : q = i
      · subst e
        rw [up_s, va_up_self, va_up_self]
        obtain ⟨h1, h2, ⟨L1, h3, h4, h5⟩, h6⟩ := hS q hq
        exact ⟨by omega, Or.inl ⟨rfl, up_s⟩, ⟨L1, h3, h4, fun hn => absurd rfl hn⟩, fun hn => absurd rfl hn⟩
      · rw [up_o e, va_up_ne _ _ e, va_up_ne _ _ e]
        obtain ⟨h1, h2, h3, h6⟩ := hS q hq
        exact ⟨h1, by rw [up_o e]; exact h2, h3, h6⟩
  · simp only [lsG, iF_f c1, upd_id, va_up_id]; exact hS
theorem k_put {L1 : Nat} (hS : ∀ q, q < 4 → RelS q (ln q) (L q) (F q) SO SL CE) (hj : ∀ i, i < 4 → k = nI i → i = j) (hL1 : ln j ≠ (-1) → L j = L1) (i v : Int32) : ∀ q, q < 4 → RelS q (ln q) (L q) (va_up F j (ptG (-1) (ln j) (L j) k i (upd (F j) (tn i) (ctl (ln j) v)) (F j)) q) SO SL (ptG (-9) (SO (tn k)) L1 k i (upd CE (60 * tn k + tn i) (ctl (SO (tn k)) v)) CE) := by
  by_cases c1 : vp_in k 4
  · obtain ⟨a, ha, rfl⟩ := vp_in_of c1 (by decide)
    have e := hj a ha rfl
    subst e
    obtain ⟨g1, g2, g3, g6⟩ := hS a ha
    simp only [ptG, iF_t c1]
    rw [tn_nI (show a < 2 ^ 31 by omega)]
    rcases g2 with ⟨p, q⟩ | ⟨p, q, r⟩
    · simp only [iF_t p, iF_t q, va_up_id]; exact hS
    · simp only [iF_f p, iF_f q]
      simp only [← r, ← hL1 p]
      by_cases c3 : hc (L a) i (nI 1)
      · simp only [iF_t c3]
        obtain ⟨t0, ht0, rfl⟩ := hc_1 c3 (by omega)
        rw [tn_nI (show t0 < 2 ^ 31 by omega)]
        intro q2 hq2
        obtain ⟨h1, h2, h3, h6⟩ := hS q2 hq2
        refine ⟨h1, h2, h3, fun hn t ht => ?_⟩
        by_cases e : q2 = a
        · subst e
          rw [va_up_self]
          by_cases e3 : t = t0
          · rw [e3, up_s, up_s]
          · rw [up_o e3, up_o (by omega)]; exact h6 hn t ht
        · rw [va_up_ne _ _ e, up_o (by omega)]; exact h6 hn t ht
      · simp only [iF_f c3, va_up_id]; exact hS
  · simp only [ptG, iF_f c1, va_up_id]; exact hS
theorem cpy_at {f g : Nat → Int32} {s d n t : Nat} (h : d ≤ t ∧ t < d + n) : va_cpy f g s d n t = f (s + (t - d)) := by
  unfold va_cpy; rw [if_pos h]
theorem cpy_off {f g : Nat → Int32} {s d n t : Nat} (h : ¬ (d ≤ t ∧ t < d + n)) : va_cpy f g s d n t = g t := by
  unfold va_cpy; rw [if_neg h]
theorem k_copy {j2 : Nat} {u : Int32} {L1 L2 : Nat} (hS : ∀ q, q < 4 → RelS q (ln q) (L q) (F q) SO SL CE) (hj : ∀ i, i < 4 → k = nI i → i = j) (hj2 : ∀ i, i < 4 → u = nI i → i = j2) (hL1 : ln j ≠ (-1) → L j = L1) (hL2 : ln j2 ≠ (-1) → L j2 = L2) (i o n : Int32) : ∀ q, q < 4 → RelS q (ln q) (L q) (va_up F j2 (cpG (-1) (ln j) (ln j2) (L j) (L j2) k u i o n (va_cpy (F j) (F j2) (tn i) (tn o) (tn n)) (F j2)) q) SO SL (cpG (-9) (SO (tn k)) (SO (tn u)) L1 L2 k u i o n (va_cpy CE CE (60 * tn k + tn i) (60 * tn u + tn o) (tn n)) CE) := by
  by_cases c1 : vp_in k 4
  · by_cases c2 : vp_in u 4
    · obtain ⟨a, ha, rfl⟩ := vp_in_of c1 (by decide)
      have e := hj a ha rfl
      subst e
      obtain ⟨b, hb, rfl⟩ := vp_in_of c2 (by decide)
      have e := hj2 b hb rfl
      subst e
      obtain ⟨g1, g2, g3, g6⟩ := hS a ha
      obtain ⟨f1, f2, f3, f6⟩ := hS b hb
      simp only [cpG, iF_t c1, iF_t c2]
      rw [tn_nI (show a < 2 ^ 31 by omega), tn_nI (show b < 2 ^ 31 by omega)]
      rcases g2 with ⟨p, q⟩ | ⟨p, q, r⟩
      · simp only [iF_t p, iF_t q, va_up_id]; exact hS
      · rcases f2 with ⟨p2, q2⟩ | ⟨p2, q2, r2⟩
        · simp only [iF_f p, iF_f q, iF_t p2, iF_t q2, va_up_id]; exact hS
        · simp only [iF_f p, iF_f q, iF_f p2, iF_f q2]
          simp only [← r, ← r2, ← hL1 p, ← hL2 p2]
          by_cases c3 : ln a = ln b
          · by_cases c4 : hc (L a) i n ∧ hc (L b) o n
            · simp only [iF_t c3, iF_t c4]
              obtain ⟨x1, x2, rfl, rfl, hx⟩ := hc_of c4.1 (by omega)
              obtain ⟨y1, y2, rfl, e2, hy⟩ := hc_of c4.2 (by omega)
              have e2 : x2 = y2 := (nI_eq (by omega) (by omega)).mp e2
              subst e2
              rw [tn_nI (show x1 < 2 ^ 31 by omega), tn_nI (show x2 < 2 ^ 31 by omega), tn_nI (show y1 < 2 ^ 31 by omega)]
              intro w hw
              obtain ⟨h1, h2, h3, h6⟩ := hS w hw
              refine ⟨h1, h2, h3, fun hn t ht => ?_⟩
              by_cases e : w = b
              · subst e
                rw [va_up_self]
                by_cases c5 : y1 ≤ t ∧ t < y1 + x2
                · rw [cpy_at c5, cpy_at (show 60 * w + y1 ≤ 60 * w + t ∧ 60 * w + t < 60 * w + y1 + x2 by omega), g6 p _ (by omega)]
                  congr 1; omega
                · rw [cpy_off c5, cpy_off (show ¬ (60 * w + y1 ≤ 60 * w + t ∧ 60 * w + t < 60 * w + y1 + x2) by omega)]
                  exact h6 hn t ht
              · rw [va_up_ne _ _ e, cpy_off (show ¬ (60 * b + y1 ≤ 60 * w + t ∧ 60 * w + t < 60 * b + y1 + x2) by omega)]
                exact h6 hn t ht
            · simp only [iF_t c3, iF_f c4, va_up_id]; exact hS
          · simp only [iF_f c3, va_up_id]; exact hS
    · simp only [cpG, iF_t c1, iF_f c2, va_up_id]; exact hS
  · simp only [cpG, iF_f c1, va_up_id]; exact hS
/-- the number of the sheet that a call names, or any where it names none -/
theorem sh_num (k : Int32) : ∃ j, j < 4 ∧ ∀ i, i < 4 → k = nI i → i = j := by
  by_cases c : vp_in k 4
  · obtain ⟨a, ha, rfl⟩ := vp_in_of c (by decide)
    exact ⟨a, ha, fun i hi e => ((nI_eq (by omega) (by omega)).mp e).symm⟩
  · exact ⟨0, by decide, fun i hi e => absurd (by rw [e]; exact vp_in_nI hi (by decide)) c⟩
theorem sh_two (k u : Int32) : (u = k ∧ ∃ j, j < 4 ∧ ∀ i, i < 4 → k = nI i → i = j) ∨ ∃ j j2, j < 4 ∧ j2 < 4 ∧ j ≠ j2 ∧ (∀ i, i < 4 → k = nI i → i = j) ∧ ∀ i, i < 4 → u = nI i → i = j2 := by
  by_cases e : u = k
  · exact Or.inl ⟨e, sh_num k⟩
  · refine Or.inr ?_
    by_cases c : vp_in k 4
    · obtain ⟨a, ha, rfl⟩ := vp_in_of c (by decide)
      have h1 : ∀ i, i < 4 → nI a = nI i → i = a := fun i hi e => ((nI_eq (by omega) (by omega)).mp e).symm
      by_cases c2 : vp_in u 4
      · obtain ⟨b, hb, rfl⟩ := vp_in_of c2 (by decide)
        exact ⟨a, b, ha, hb, fun q => e (by rw [q]), h1, fun i hi e => ((nI_eq (by omega) (by omega)).mp e).symm⟩
      · have h2 : ∀ (b i : Nat), i < 4 → u = nI i → i = b := fun b i hi e => absurd (by rw [e]; exact vp_in_nI hi (by decide)) c2
        by_cases z : a = 0
        · exact ⟨a, 1, ha, by decide, by omega, h1, h2 1⟩
        · exact ⟨a, 0, ha, by decide, z, h1, h2 0⟩
    · have h1 : ∀ (b i : Nat), i < 4 → k = nI i → i = b := fun b i hi e => absurd (by rw [e]; exact vp_in_nI hi (by decide)) c
      obtain ⟨b, hb, h2⟩ := sh_num u
      by_cases z : b = 0
      · exact ⟨1, b, by decide, hb, by omega, h1 1, h2⟩
      · exact ⟨0, b, by decide, hb, fun q => z q.symm, h1 0, h2⟩
end LWS
