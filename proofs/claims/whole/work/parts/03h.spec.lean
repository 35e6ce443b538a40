/-! ===== forge: the two searches come to the same note ===== -/
theorem dv1 {i j M : Nat} (hj : j < M) : (i * M + j) / M = i := by
  rw [Nat.mul_comm, Nat.mul_add_div (by omega), Nat.div_eq_of_lt hj, Nat.add_zero]
theorem dv2 {i j M : Nat} (hj : j < M) : (i * M + j) % M = j := by
  rw [Nat.mul_comm, Nat.mul_add_mod, Nat.mod_eq_of_lt hj]
theorem nI_n9 {k : Nat} (h : k ≤ 100) : ¬ nI k = -9 := fun e => by
  have h2 := congrArg Int32.toInt e
  rw [nI_toInt (by omega)] at h2
  have e2 : (-9 : Int32).toInt = -9 := by decide
  rw [e2] at h2
  omega
theorem fgq_lt {P : Nat → Int32} {M a c q : Nat} (h : fgq P M a c = some q) : q < 9 - tn (P (a * 5 + c)) ∧ nxt (upd P (a * 5 + c) (nI (tn (P (a * 5 + c)) + 1 + q))) M a = c ∧ ∀ j, j < q → ¬ nxt (upd P (a * 5 + c) (nI (tn (P (a * 5 + c)) + 1 + j))) M a = c := fi_some.mp h
theorem fgv_cases (P : Nat → Int32) (M a c : Nat) : (fgv P M a c = -9 ∧ (a = c ∨ nxt P M a = c ∨ fgq P M a c = none)) ∨ ∃ q, ¬ a = c ∧ ¬ nxt P M a = c ∧ fgq P M a c = some q ∧ fgv P M a c = nI (q + 1) ∧ fgA P M a c = upd P (a * 5 + c) (nI (tn (P (a * 5 + c)) + 1 + q)) ∧ q + 1 ≤ 9 := by
  unfold fgv fgA
  by_cases h1 : a = c
  · exact Or.inl ⟨iF_t h1, Or.inl h1⟩
  · rw [iF_f h1, iF_f h1]
    by_cases h2 : nxt P M a = c
    · exact Or.inl ⟨iF_t h2, Or.inr (Or.inl h2)⟩
    · rw [iF_f h2, iF_f h2]
      cases h3 : fgq P M a c with
      | none => exact Or.inl ⟨rfl, Or.inr (Or.inr rfl)⟩
      | some q => exact Or.inr ⟨q, h1, h2, rfl, rfl, rfl, by have := (fgq_lt h3).1; omega⟩
theorem thx_cases (P : Nat → Int32) (M u n g i j : Nat) (hj : j < M) : (fgv P M i j = -9 ∧ thx P M u n g (i * M + j) = none) ∨ ∃ q, fgv P M i j = nI (q + 1) ∧ q + 1 ≤ 9 ∧ ((wh (fgA P M i j) M u n = g ∧ thx P M u n g (i * M + j) = some (q + 1)) ∨ (wh (fgA P M i j) M u n ≠ g ∧ thx P M u n g (i * M + j) = none)) := by
  unfold thx
  rw [dv1 hj, dv2 hj]
  rcases fgv_cases P M i j with ⟨h1, h2⟩ | ⟨q, h1, h2, h3, h4, h5, h6⟩
  · refine Or.inl ⟨h1, ?_⟩
    by_cases c1 : i = j
    · exact iF_t c1
    · rw [iF_f c1]
      by_cases c2 : nxt P M i = j
      · exact iF_t c2
      · rw [iF_f c2]
        rcases h2 with h | h | h
        · exact absurd h c1
        · exact absurd h c2
        · rw [h]
  · refine Or.inr ⟨q, h4, h6, ?_⟩
    rw [iF_f h1, iF_f h2, h3, h5]
    by_cases c : wh (upd P (i * 5 + j) (nI (tn (P (i * 5 + j)) + 1 + q))) M u n = g
    · exact Or.inl ⟨c, iF_t c⟩
    · exact Or.inr ⟨c, iF_f c⟩
theorem bst_none {th : Nat → Option Nat} {r : Nat} (h : th r = none) : bst th (r + 1) = bst th r := by
  show (match th r with | none => bst th r | some t => match bst th r with | none => some (t, r) | some (t0, k0) => if t < t0 then some (t, r) else some (t0, k0)) = bst th r
  rw [h]
theorem bst_some {th : Nat → Option Nat} {r t : Nat} (h : th r = some t) : bst th (r + 1) = match bst th r with | none => some (t, r) | some (t0, k0) => if t < t0 then some (t, r) else some (t0, k0) := by
  show (match th r with | none => bst th r | some t => match bst th r with | none => some (t, r) | some (t0, k0) => if t < t0 then some (t, r) else some (t0, k0)) = _
  rw [h]
theorem thx9 {P : Nat → Int32} {M u n g k t : Nat} (h : thx P M u n g k = some t) : 1 ≤ t ∧ tn (P (k / M * 5 + k % M)) + t ≤ 9 := by
  unfold thx at h
  by_cases c1 : k / M = k % M
  · rw [iF_t c1] at h; cases h
  · rw [iF_f c1] at h
    by_cases c2 : nxt P M (k / M) = k % M
    · rw [iF_t c2] at h; cases h
    · rw [iF_f c2] at h
      cases h3 : fgq P M (k / M) (k % M) with
      | none => rw [h3] at h; cases h
      | some q =>
        rw [h3] at h
        dsimp only at h
        have hq := (fgq_lt h3).1
        by_cases c : wh (upd P (k / M * 5 + k % M) (nI (tn (P (k / M * 5 + k % M)) + 1 + q))) M u n = g
        · rw [iF_t c] at h; cases h; omega
        · rw [iF_f c] at h; cases h
section FST
variable {P : Nat → Int32} {M u n g i j : Nat}
theorem st_no1 (hj : j < M) (h : fgv P M i j = -9) : bst (thx P M u n g) (i * M + (j + 1)) = bst (thx P M u n g) (i * M + j) := by
  rcases thx_cases P M u n g i j hj with ⟨_, h2⟩ | ⟨q, h1, h2, _⟩
  · exact bst_none h2
  · rw [h1] at h; exact absurd h (nI_n9 (by omega))
theorem st_ne (hj : j < M) (h : wh (fgA P M i j) M u n ≠ g) : bst (thx P M u n g) (i * M + (j + 1)) = bst (thx P M u n g) (i * M + j) := by
  rcases thx_cases P M u n g i j hj with ⟨_, h2⟩ | ⟨q, h1, h2, ⟨h3, _⟩ | ⟨_, h3⟩⟩
  · exact bst_none h2
  · exact absurd h3 h
  · exact bst_none h3
theorem st_no2 (hj : j < M) (h1 : ¬ e1 (bst (thx P M u n g) (i * M + j)) = -9) (h2 : e1 (bst (thx P M u n g) (i * M + j)) ≤ fgv P M i j) : bst (thx P M u n g) (i * M + (j + 1)) = bst (thx P M u n g) (i * M + j) := by
  rcases thx_cases P M u n g i j hj with ⟨_, h3⟩ | ⟨q, h3, h4, ⟨_, h5⟩ | ⟨_, h5⟩⟩
  · exact bst_none h3
  · have h6 := bst_some h5
    cases hb : bst (thx P M u n g) (i * M + j) with
    | none => rw [hb] at h1; exact absurd rfl h1
    | some x =>
      obtain ⟨t0, k0⟩ := x
      have ht := bst_t9 (th := thx P M u n g) (fun k t e => by have := (thx9 e).2; omega) _ _ _ hb
      rw [hb] at h2 h6
      rw [h3] at h2
      have h7 : t0 ≤ q + 1 := (nI_leI (by omega) (by omega)).mp h2
      dsimp only at h6
      rw [if_neg (by omega)] at h6
      exact h6
  · exact bst_none h5
theorem st_yes (hj : j < M) (h0 : ¬ fgv P M i j = -9) (h1 : e1 (bst (thx P M u n g) (i * M + j)) = -9 ∨ ¬ e1 (bst (thx P M u n g) (i * M + j)) ≤ fgv P M i j) (h2 : wh (fgA P M i j) M u n = g) : e1 (bst (thx P M u n g) (i * M + (j + 1))) = fgv P M i j ∧ e2 M (bst (thx P M u n g) (i * M + (j + 1))) = nI i ∧ e3 M (bst (thx P M u n g) (i * M + (j + 1))) = nI j := by
  rcases thx_cases P M u n g i j hj with ⟨h3, _⟩ | ⟨q, h3, h4, ⟨_, h5⟩ | ⟨h5, _⟩⟩
  · exact absurd h3 h0
  · have h6 : bst (thx P M u n g) (i * M + (j + 1)) = some (q + 1, i * M + j) := by
      have h6 := bst_some h5
      cases hb : bst (thx P M u n g) (i * M + j) with
      | none => rw [hb] at h6; exact h6
      | some x =>
        obtain ⟨t0, k0⟩ := x
        have ht := bst_t9 (th := thx P M u n g) (fun k t e => by have := (thx9 e).2; omega) _ _ _ hb
        rw [hb] at h1 h6
        dsimp only at h6
        rw [h3] at h1
        have h7 : q + 1 < t0 := by
          rcases h1 with h | h
          · exact absurd h (nI_n9 (k := t0) (by omega))
          · exact Nat.lt_of_not_le (fun z => h ((nI_leI (by omega) (by omega)).mpr z))
        rw [if_pos h7] at h6
        exact h6
    rw [h6, h3]
    refine ⟨rfl, ?_, ?_⟩
    · show nI ((i * M + j) / M) = nI i
      rw [dv1 hj]
    · show nI ((i * M + j) % M) = nI j
      rw [dv2 hj]
  · exact absurd h2 h5
end FST
theorem bst_min {th : Nat → Option Nat} {t k : Nat} (hk : th k = some t) : ∀ N, k < N → (∀ q s, q < N → th q = some s → t ≤ s) → (∀ q s, q < k → th q = some s → t < s) → bst th N = some (t, k)
  | 0, h, _, _ => absurd h (Nat.not_lt_zero k)
  | N + 1, h, h1, h2 => by
    rcases Nat.lt_or_ge k N with q | q
    · have ih := bst_min hk N q (fun q s hq hs => h1 q s (by omega) hs) h2
      cases hN : th N with
      | none => rw [bst_none hN]; exact ih
      | some s =>
        rw [bst_some hN, ih]
        dsimp only
        have := h1 N s (by omega) hN
        rw [if_neg (by omega)]
    · have e : k = N := by omega
      subst e
      rw [bst_some hk]
      cases hb : bst th k with
      | none => rfl
      | some x =>
        obtain ⟨t0, k0⟩ := x
        dsimp only
        have key : ∀ r, r ≤ k → ∀ t0 k0, bst th r = some (t0, k0) → t < t0 := by
          intro r
          induction r with
          | zero => intro _ _ _ e; cases e
          | succ r ihr =>
            intro hr t0 k0 e
            cases hc : th r with
            | none => rw [bst_none hc] at e; exact ihr (by omega) _ _ e
            | some s =>
              rw [bst_some hc] at e
              cases hd : bst th r with
              | none => rw [hd] at e; cases e; exact h2 r _ (by omega) hc
              | some y =>
                obtain ⟨t1, k1⟩ := y
                rw [hd] at e
                dsimp only at e
                by_cases c : s < t1
                · rw [if_pos c] at e; cases e; exact h2 r _ (by omega) hc
                · rw [if_neg c] at e; cases e; exact ihr (by omega) _ _ hd
        rw [if_pos (key k (Nat.le_refl k) t0 k0 hb)]
theorem bst_no {th : Nat → Option Nat} : ∀ N, (∀ q, q < N → th q = none) → bst th N = none
  | 0, _ => rfl
  | N + 1, h => by rw [bst_none (h N (by omega))]; exact bst_no N (fun q hq => h q (by omega))
theorem isb_iff {P : Nat → Int32} {M u n g k t : Nat} (hM : M ≤ 5) (hu : u < M) (hk : k < M * M) (h9 : P9 P M) (hz : ∀ j, j < M → P (j * 5 + j) = nI 0) (hng : wh P M u n ≠ g) (ht : 1 ≤ t) : isb P M u n g (k / M) (k % M) t ↔ ∃ t0, thx P M u n g k = some t0 ∧ t0 ≤ t ∧ tn (P (k / M * 5 + k % M)) + t ≤ 9 := by
  have hM0 : 0 < M := by omega
  have ha : k / M < M := Nat.div_lt_of_lt_mul hk
  have hc : k % M < M := Nat.mod_lt _ hM0
  unfold thx isb
  generalize k / M = a at ha ⊢
  generalize k % M = c at hc ⊢
  by_cases hac : a = c
  · rw [iF_t hac]
    exact ⟨fun h => absurd hac h.1, fun ⟨_, h, _⟩ => by cases h⟩
  · rw [iF_f hac]
    have same : ∀ v, v ≤ 9 → nxt (upd P (a * 5 + c) (nI v)) M a = nxt P M a → wh (upd P (a * 5 + c) (nI v)) M u n = wh P M u n := fun v hv h => wh_next hu (fun j hj => by
      by_cases e : j = a
      · rw [e]; exact h
      · exact nxt_off hM hc hj e) n
    have same2 : ∀ v w, v ≤ 9 → w ≤ 9 → nxt (upd P (a * 5 + c) (nI v)) M a = c → nxt (upd P (a * 5 + c) (nI w)) M a = c → wh (upd P (a * 5 + c) (nI v)) M u n = wh (upd P (a * 5 + c) (nI w)) M u n := fun v w hv hw h1 h2 => wh_next hu (fun j hj => by
      by_cases e : j = a
      · rw [e, h1, h2]
      · rw [nxt_off hM hc hj e, nxt_off hM hc hj e]) n
    have up := fun v hv hp => nxt_up (v := v) hM ha hc hac h9 (hz a ha) hv hp
    by_cases hrc : nxt P M a = c
    · rw [iF_t hrc]
      refine ⟨fun h => ?_, fun ⟨_, h, _⟩ => by cases h⟩
      have h1 := (up (tn (P (a * 5 + c)) + t) h.2.1 (by omega)).1 (Or.inl hrc)
      have h2 := same _ h.2.1 (by rw [h1, hrc])
      rw [h.2.2] at h2
      exact absurd h2.symm hng
    · rw [iF_f hrc]
      have mono : ∀ v w, v ≤ w → w ≤ 9 → tn (P (a * 5 + c)) < v → nxt (upd P (a * 5 + c) (nI v)) M a = c → nxt (upd P (a * 5 + c) (nI w)) M a = c := by
        intro v w hvw hw hp h
        refine (up w hw (by omega)).1 ?_
        by_cases z : nxt P M a = c ∨ tn (P (a * 5 + nxt P M a)) < v ∨ (tn (P (a * 5 + nxt P M a)) = v ∧ c < nxt P M a)
        · rcases z with z | z | z
          · exact Or.inl z
          · exact Or.inr (Or.inl (by omega))
          · rcases Nat.lt_or_ge v w with y | y
            · exact Or.inr (Or.inl (by omega))
            · exact Or.inr (Or.inr ⟨by omega, z.2⟩)
        · rw [(up v (by omega) hp).2 z] at h
          exact Or.inl h
      constructor
      · rintro ⟨_, h1, h2⟩
        have hN : nxt (upd P (a * 5 + c) (nI (tn (P (a * 5 + c)) + t))) M a = c := by
          by_cases z : nxt P M a = c ∨ tn (P (a * 5 + nxt P M a)) < tn (P (a * 5 + c)) + t ∨ (tn (P (a * 5 + nxt P M a)) = tn (P (a * 5 + c)) + t ∧ c < nxt P M a)
          · exact (up _ h1 (by omega)).1 z
          · have h3 := same _ h1 ((up _ h1 (by omega)).2 z)
            rw [h2] at h3
            exact absurd h3.symm hng
        cases hf : fgq P M a c with
        | none =>
          have := fi_none.mp hf (t - 1) (by omega)
          rw [show tn (P (a * 5 + c)) + 1 + (t - 1) = tn (P (a * 5 + c)) + t by omega] at this
          exact absurd hN this
        | some q =>
          obtain ⟨g1, g2, g3⟩ := fgq_lt hf
          have hq : q ≤ t - 1 := by
            rcases Nat.lt_or_ge (t - 1) q with z | z
            · have := g3 (t - 1) z
              rw [show tn (P (a * 5 + c)) + 1 + (t - 1) = tn (P (a * 5 + c)) + t by omega] at this
              exact absurd hN this
            · exact z
          refine ⟨q + 1, ?_, by omega, h1⟩
          dsimp only
          rw [iF_t (by rw [same2 _ _ (by omega) h1 g2 hN]; exact h2)]
      · rintro ⟨t0, h1, h2, h3⟩
        cases hf : fgq P M a c with
        | none => rw [hf] at h1; cases h1
        | some q =>
          obtain ⟨g1, g2, g3⟩ := fgq_lt hf
          rw [hf] at h1
          dsimp only at h1
          by_cases z : wh (upd P (a * 5 + c) (nI (tn (P (a * 5 + c)) + 1 + q))) M u n = g
          · rw [iF_t z] at h1
            cases h1
            have hN := mono _ (tn (P (a * 5 + c)) + t) (by omega) h3 (by omega) g2
            exact ⟨hac, h3, by rw [same2 _ _ h3 (by omega) hN g2]; exact z⟩
          · rw [iF_f z] at h1; cases h1
theorem fm_hit {P : Nat → Int32} {M u n g q k : Nat} (hM : M ≤ 5) (hu : u < M) (h9 : P9 P M) (hz : ∀ j, j < M → P (j * 5 + j) = nI 0) (hng : wh P M u n ≠ g) (hq : fi (fun q => ∃ k, k < M * M ∧ isb P M u n g (k / M) (k % M) (q + 1)) q = none) (hk : fi (fun k => isb P M u n g (k / M) (k % M) (q + 1)) k = none) (hkM : k < M * M) (h : isb P M u n g (k / M) (k % M) (q + 1)) : bst (thx P M u n g) (M * M) = some (q + 1, k) := by
  have no : ∀ k' t', k' < M * M → thx P M u n g k' = some t' → q + 1 ≤ t' := by
    intro k' t' hk' e
    rcases Nat.lt_or_ge t' (q + 1) with z | z
    · have h1 := thx9 e
      exact absurd ⟨k', hk', (isb_iff hM hu hk' h9 hz hng (by omega)).mpr ⟨t', e, by omega, by omega⟩⟩ (fi_none.mp hq (t' - 1) (by omega))
    · exact z
  obtain ⟨t0, e, h2, h3⟩ := (isb_iff hM hu hkM h9 hz hng (by omega)).mp h
  have e2 : t0 = q + 1 := by have := no k t0 hkM e; omega
  subst e2
  refine bst_min e (M * M) hkM (fun k' s h1 h2 => no k' s h1 h2) (fun k' s h1 h4 => ?_)
  have h5 := no k' s (by omega) h4
  rcases Nat.lt_or_ge (q + 1) s with z | z
  · exact z
  · have h6 := thx9 h4
    have e3 : s = q + 1 := by omega
    subst e3
    exact absurd ((isb_iff hM hu (by omega) h9 hz hng (by omega)).mpr ⟨q + 1, h4, Nat.le_refl _, h6.2⟩) (fi_none.mp hk k' h1)
theorem fm_none {P : Nat → Int32} {M u n g : Nat} (hM : M ≤ 5) (hu : u < M) (h9 : P9 P M) (hz : ∀ j, j < M → P (j * 5 + j) = nI 0) (hng : wh P M u n ≠ g) (hq : fi (fun q => ∃ k, k < M * M ∧ isb P M u n g (k / M) (k % M) (q + 1)) 9 = none) : bst (thx P M u n g) (M * M) = none := by
  refine bst_no (M * M) (fun k hk => ?_)
  cases e : thx P M u n g k with
  | none => rfl
  | some t =>
    have h1 := thx9 e
    have h2 := fi_none.mp hq (t - 1) (by omega)
    exact absurd ⟨k, hk, by rw [show t - 1 + 1 = t by omega]; exact (isb_iff hM hu hk h9 hz hng h1.1).mpr ⟨t, e, Nat.le_refl _, h1.2⟩⟩ h2
noncomputable def fgG {α : Type} (B M : Nat) (P U : Nat → Int32) (b m n w : Int32) (x z : α) : α := iF (vp_in b B) (iF (vp_in m M) (iF (vp_in n (20 + 1)) (iF (vp_in w (2 + 1)) (iF (wh P M (tn (U (tn b))) (tn n) = tn m) z x) z) z) z) z
noncomputable def fgB (B M : Nat) (P U : Nat → Int32) (b m n w z : Int32) : Int32 := iF (vp_in b B) (iF (vp_in m M) (iF (vp_in n (20 + 1)) (iF (vp_in w (2 + 1)) (iF (wh P M (tn (U (tn b))) (tn n) = tn m) (-9) (e2 M (bst (thx P M (tn (U (tn b))) (tn n) (tn m)) (M * M)))) z) z) z) z
noncomputable def fgT (B M : Nat) (P U : Nat → Int32) (b m n w z : Int32) : Int32 := iF (vp_in b B) (iF (vp_in m M) (iF (vp_in n (20 + 1)) (iF (vp_in w (2 + 1)) (iF (wh P M (tn (U (tn b))) (tn n) = tn m) (-9) (e3 M (bst (thx P M (tn (U (tn b))) (tn n) (tn m)) (M * M)))) z) z) z) z
theorem isb_back {P : Nat → Int32} {i t : Nat} {x : Int32} (h : vp_in (P i) (9 + 1)) : upd (upd P i x) i (nI (tn (P i) + t - t)) = P := by
  rw [upd_upd, Nat.add_sub_cancel]
  exact upd_self (tn_of h (by omega))
