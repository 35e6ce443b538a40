/-! ===== what a good town's text gives ===== -/
section TWN
variable {g : Nat → Int32} {M n a b : Nat}
theorem ok_fit (h : okT g M n) : ∀ p, p < n → fitP g M p := fun p hp => Classical.not_not.mp (fi_none.mp h.1 p hp)
theorem ok_M (h : okT g M n) (hM : M = 0 ∨ (2 ≤ M ∧ M ≤ 5)) : 2 ≤ M ∧ M ≤ 5 := by
  rcases hM with e | e
  · have h1 := h.2.1
    subst e
    have := (ok_fit h 1 (by omega)).2.1 rfl
    omega
  · exact e
theorem ok_n (h : okT g M n) : n = 2 + M * (M + 1) + 3 * ((n - (2 + M * (M + 1))) / 3) ∧ 1 ≤ (n - (2 + M * (M + 1))) / 3 := by
  have h1 := h.2.1
  have h2 := h.2.2
  generalize 2 + M * (M + 1) = f at h1 h2 ⊢
  omega
theorem ok_B (h : okT g M n) (hM2 : 2 ≤ M) (hM : M ≤ 5) : (n - (2 + M * (M + 1))) / 3 ≤ 4 := by
  obtain ⟨h1, h2⟩ := ok_n h
  generalize hB : (n - (2 + M * (M + 1))) / 3 = B at h1 h2 ⊢
  have h3 := ((pl3 (g := g) (c := B - 1) hM2 hM).mp (ok_fit h _ (by omega))).2
  omega
theorem tw_row (h : okT g M n) (hM2 : 2 ≤ M) (hM : M ≤ 5) (ha : a < M) (hb : b < M) : dgt (g (2 + a * (M + 1) + 1 + b)) 0 (if b = a then 0 else 9) := by
  have h1 := mulM hM2 hM ha
  have h2 := h.2.1
  exact (pl2 hM2 hM ha hb).mp (ok_fit h _ (by omega))
theorem tw_P {P : Nat → Int32} (h : okT g M n) (hM2 : 2 ≤ M) (hM : M ≤ 5) (ha : a < M) (hb : b < M) : spO P g M M (a * 5 + b) = nI (d9 (g (2 + a * (M + 1) + 1 + b))) ∧ d9 (g (2 + a * (M + 1) + 1 + b)) ≤ 9 ∧ (b = a → d9 (g (2 + a * (M + 1) + 1 + b)) = 0) := by
  have hd := tw_row h hM2 hM ha hb
  have h9 : (if b = a then 0 else 9) ≤ 9 := by split <;> omega
  obtain ⟨h1, _, h3, _⟩ := dg_of hd (by omega) h9
  refine ⟨(spO_at hM ha hb).trans h1, by omega, fun e => ?_⟩
  rw [if_pos e] at h3
  omega
theorem tw_K {K : Nat → Int32} (h : okT g M n) (hM2 : 2 ≤ M) (hM : M ≤ 5) (hb : b < (n - (2 + M * (M + 1))) / 3) : skK K g M ((n - (2 + M * (M + 1))) / 3) b = nI (k9 (g (2 + M * (M + 1) + 3 * b + 1))) ∧ k9 (g (2 + M * (M + 1) + 3 * b + 1)) ≤ 2 := by
  obtain ⟨h1, h2⟩ := ok_n h
  have hk := (pl4 (g := g) (c := b) hM2 hM).mp (ok_fit h _ (by omega))
  obtain ⟨h3, h4⟩ := kn_of hk.1 hk.2
  refine ⟨?_, h3⟩
  rw [skK_at hb, Nat.mul_comm b 3, h4, pk_sub (by omega), Nat.add_sub_cancel_left, ← h4]
theorem tw_U {K : Nat → Int32} (h : okT g M n) (hM2 : 2 ≤ M) (hM : M ≤ 5) (hb : b < (n - (2 + M * (M + 1))) / 3) : skU K g M ((n - (2 + M * (M + 1))) / 3) b = nI (d9 (g (2 + M * (M + 1) + 3 * b + 2))) ∧ d9 (g (2 + M * (M + 1) + 3 * b + 2)) < M := by
  obtain ⟨h1, h2⟩ := ok_n h
  have hk := (pl5 (g := g) (c := b) hM2 hM).mp (ok_fit h _ (by omega))
  obtain ⟨h3, _, h4, _⟩ := dg_of hk (by omega) (by omega)
  refine ⟨?_, by omega⟩
  rw [skU_at hb, Nat.mul_comm b 3]
  exact h3
end TWN
