/-! ===== the two readings of a town agree ===== -/
theorem ffv_no {g : Nat → Int32} {M n : Nat} (h : ¬ okT g M n) : ffv g M n = nI (ffP g M n) := by
  unfold ffv ffP
  cases e : ffo g M n with
  | none =>
    have hc : ¬ cmpl M n := fun q => h ⟨e, q⟩
    show iF (cmpl M n) (-9) (nI n) = nI n
    exact iF_f hc
  | some k => rfl
theorem ffv_yes {g : Nat → Int32} {M n : Nat} (h : okT g M n) : ffv g M n = (-9) := by
  unfold ffv
  rw [h.1]
  exact iF_t h.2
theorem ffP_le {g : Nat → Int32} {M n : Nat} : ffP g M n ≤ n := by
  unfold ffP
  cases e : ffo g M n with
  | none => exact Nat.le_refl n
  | some k => exact Nat.le_of_lt (fi_some.mp e).1
theorem ffv_iff {g : Nat → Int32} {M n : Nat} (hn : n ≤ 60) : ffv g M n = (-9) ↔ okT g M n := by
  constructor
  · intro h
    by_cases q : okT g M n
    · exact q
    · rw [ffv_no q] at h
      exact absurd h (nI_n9 (by have := ffP_le (g := g) (M := M) (n := n); omega))
  · exact ffv_yes
theorem up_o {f : Nat → Int32} {k j : Nat} {x : Int32} (h : j ≠ k) : upd f k x j = f j := by
  unfold upd; exact if_neg h
theorem up_s {f : Nat → Int32} {k : Nat} {x : Int32} : upd f k x k = x := by
  unfold upd; exact if_pos rfl
theorem cpA_in {P Q : Nat → Int32} : ∀ {n j : Nat}, j < n → cpA P Q n j = Q j
  | n + 1, j, h => by
    show upd (cpA P Q n) n (Q n) j = Q j
    by_cases e : j = n
    · subst e; exact up_s
    · rw [up_o e]; exact cpA_in (by omega)
theorem spI_at {P g : Nat → Int32} {M a : Nat} : ∀ {n b : Nat}, b < n → spI P g M a n (a * 5 + b) = g (2 + a * (M + 1) + 1 + b) - nI 48
  | n + 1, b, h => by
    show upd (spI P g M a n) (a * 5 + n) _ (a * 5 + b) = _
    by_cases e : b = n
    · subst e; exact up_s
    · rw [up_o (by omega)]; exact spI_at (by omega)
theorem spI_off {P g : Nat → Int32} {M a j : Nat} : ∀ {n : Nat}, (∀ b, b < n → j ≠ a * 5 + b) → spI P g M a n j = P j
  | 0, _ => rfl
  | n + 1, h => by
    show upd (spI P g M a n) (a * 5 + n) _ j = _
    rw [up_o (h n (by omega))]
    exact spI_off (fun b hb => h b (by omega))
theorem spO_at {P g : Nat → Int32} {M : Nat} (hM : M ≤ 5) : ∀ {n a b : Nat}, a < n → b < M → spO P g M n (a * 5 + b) = g (2 + a * (M + 1) + 1 + b) - nI 48
  | n + 1, a, b, h, hb => by
    show spI (spO P g M n) g M n M (a * 5 + b) = _
    by_cases e : a = n
    · subst e; exact spI_at hb
    · rw [spI_off (fun b2 hb2 => by omega)]
      exact spO_at hM (by omega) hb
theorem rmF_at {P CE : Nat → Int32} {m q : Nat} : ∀ {n b : Nat}, b < n → rmF P CE m q n (m * 5 + b) = nI (d9 (CE (q + b)))
  | n + 1, b, h => by
    show upd (rmF P CE m q n) (m * 5 + n) _ (m * 5 + b) = _
    by_cases e : b = n
    · subst e; exact up_s
    · rw [up_o (by omega)]; exact rmF_at (by omega)
theorem rmF_off {P CE : Nat → Int32} {m q j : Nat} : ∀ {n : Nat}, (∀ b, b < n → j ≠ m * 5 + b) → rmF P CE m q n j = P j
  | 0, _ => rfl
  | n + 1, h => by
    show upd (rmF P CE m q n) (m * 5 + n) _ j = _
    rw [up_o (h n (by omega))]
    exact rmF_off (fun b hb => h b (by omega))
theorem rtP_at {P CE : Nat → Int32} {M q : Nat} (hM : M ≤ 5) : ∀ {n a b : Nat}, a < n → b < M → rtP P CE M q n (a * 5 + b) = nI (d9 (CE (q + 2 + a * (M + 1) + 1 + b)))
  | n + 1, a, b, h, hb => by
    show rmF (rtP P CE M q n) CE n (q + 2 + n * (M + 1) + 1) M (a * 5 + b) = _
    by_cases e : a = n
    · subst e; exact rmF_at hb
    · rw [rmF_off (fun b2 hb2 => by omega)]
      exact rtP_at hM (by omega) hb
theorem skK_at {K g : Nat → Int32} {M : Nat} : ∀ {n b : Nat}, b < n → skK K g M n b = g (2 + M * (M + 1) + b * 3 + 1) - nI 98
  | n + 1, b, h => by
    show upd (skK K g M n) n _ b = _
    by_cases e : b = n
    · subst e; exact up_s
    · rw [up_o e]; exact skK_at (by omega)
theorem skU_at {K g : Nat → Int32} {M : Nat} : ∀ {n b : Nat}, b < n → skU K g M n b = g (2 + M * (M + 1) + b * 3 + 2) - nI 48
  | n + 1, b, h => by
    show upd (skU K g M n) n _ b = _
    by_cases e : b = n
    · subst e; exact up_s
    · rw [up_o e]; exact skU_at (by omega)
theorem rtK_at {K CE : Nat → Int32} {q : Nat} : ∀ {n b : Nat}, b < n → rtK K CE q n b = nI (k9 (CE (q + 3 * b + 1)))
  | n + 1, b, h => by
    show upd (rtK K CE q n) n _ b = _
    by_cases e : b = n
    · subst e; exact up_s
    · rw [up_o e]; exact rtK_at (by omega)
theorem rtB_at {K CE : Nat → Int32} {q : Nat} : ∀ {n b : Nat}, b < n → rtB K CE q n b = nI (d9 (CE (q + 3 * b + 2)))
  | n + 1, b, h => by
    show upd (rtB K CE q n) n _ b = _
    by_cases e : b = n
    · subst e; exact up_s
    · rw [up_o e]; exact rtB_at (by omega)
