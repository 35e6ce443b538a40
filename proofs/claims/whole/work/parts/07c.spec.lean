/-! ===== places of a town's text ===== -/
section PLC
variable {g : Nat → Int32} {M m b c p n : Nat}
theorem mulM (hM2 : 2 ≤ M) (hM : M ≤ 5) (hm : m < M) : 2 + m * (M + 1) + 1 + M ≤ 2 + M * (M + 1) := by
  rcases (show M = 2 ∨ M = 3 ∨ M = 4 ∨ M = 5 by omega) with rfl | rfl | rfl | rfl <;> omega
theorem pl1 (hM2 : 2 ≤ M) (hM : M ≤ 5) (hm : m < M) : fitP g M (2 + m * (M + 1)) ↔ g (2 + m * (M + 1)) = nI 44 := by
  have h1 := mulM hM2 hM hm
  have e : (2 + m * (M + 1) - 2) % (M + 1) = 0 := by
    rw [Nat.add_sub_cancel_left, Nat.mul_comm]; exact Nat.mul_mod_right (M + 1) m
  constructor
  · intro h
    exact (h.2.2.1 (by omega) (by omega) (by omega)).1 e
  · intro h
    exact ⟨fun q => absurd q (by omega), fun q => absurd q (by omega), fun _ _ _ => ⟨fun _ => h, fun q => absurd e q⟩, fun _ _ q => absurd (by omega) q⟩
theorem pl2 (hM2 : 2 ≤ M) (hM : M ≤ 5) (hm : m < M) (hb : b < M) : fitP g M (2 + m * (M + 1) + 1 + b) ↔ dgt (g (2 + m * (M + 1) + 1 + b)) 0 (if b = m then 0 else 9) := by
  have h1 := mulM hM2 hM hm
  have e0 : 2 + m * (M + 1) + 1 + b - 2 = (M + 1) * m + (1 + b) := by rw [Nat.mul_comm (M + 1) m]; omega
  have e : (2 + m * (M + 1) + 1 + b - 2) % (M + 1) = 1 + b := by
    rw [e0, Nat.mul_add_mod]; exact Nat.mod_eq_of_lt (by omega)
  have e2 : (2 + m * (M + 1) + 1 + b - 2) / (M + 1) = m := by
    rw [e0, Nat.mul_add_div (by omega), Nat.div_eq_of_lt (by omega), Nat.add_zero]
  have key : (iF ((2 + m * (M + 1) + 1 + b - 2) % (M + 1) - 1 = (2 + m * (M + 1) + 1 + b - 2) / (M + 1)) (nI 48) (nI 57)) = nI (48 + (if b = m then 0 else 9)) := by
    rw [e, e2]
    by_cases q : b = m
    · rw [if_pos q, iF_t (by omega)]
    · rw [if_neg q, iF_f (by omega)]
  constructor
  · intro h
    have h2 := (h.2.2.1 (by omega) (by omega) (by omega)).2 (by rw [e]; omega)
    rw [key] at h2
    exact h2
  · intro h
    exact ⟨fun q => absurd q (by omega), fun q => absurd q (by omega), fun _ _ _ => ⟨fun q => absurd q (by rw [e]; omega), fun _ => by rw [key]; exact h⟩, fun _ _ q => absurd (by omega) q⟩
theorem pl3 (hM2 : 2 ≤ M) (hM : M ≤ 5) : fitP g M (2 + M * (M + 1) + 3 * c) ↔ (g (2 + M * (M + 1) + 3 * c) = nI 59 ∧ c < 4) := by
  have e1 : (2 + M * (M + 1) + 3 * c - (2 + M * (M + 1))) % 3 = 0 := by omega
  have e2 : (2 + M * (M + 1) + 3 * c - (2 + M * (M + 1))) / 3 = c := by omega
  constructor
  · intro h
    have h2 := (h.2.2.2 (by omega) (by omega) (by omega)).1 e1
    rw [e2] at h2
    exact h2
  · intro h
    exact ⟨fun q => absurd q (by omega), fun q => absurd q (by omega), fun _ _ q => absurd q (by omega), fun _ _ _ => ⟨fun _ => by rw [e2]; exact h, fun q => absurd q (by omega), fun q => absurd e1 q⟩⟩
theorem pl4 (hM2 : 2 ≤ M) (hM : M ≤ 5) : fitP g M (2 + M * (M + 1) + 3 * c + 1) ↔ (¬ g (2 + M * (M + 1) + 3 * c + 1) < nI 98 ∧ ¬ nI 100 < g (2 + M * (M + 1) + 3 * c + 1)) := by
  have e1 : (2 + M * (M + 1) + 3 * c + 1 - (2 + M * (M + 1))) % 3 = 1 := by omega
  constructor
  · intro h
    exact (h.2.2.2 (by omega) (by omega) (by omega)).2.1 e1
  · intro h
    exact ⟨fun q => absurd q (by omega), fun q => absurd q (by omega), fun _ _ q => absurd q (by omega), fun _ _ _ => ⟨fun q => absurd q (by omega), fun _ => h, fun _ q => absurd e1 q⟩⟩
theorem nI_lt_le {x : Int32} (hM2 : 2 ≤ M) (hM : M ≤ 5) : ¬ nI (48 + M) ≤ x ↔ ¬ nI (48 + (M - 1)) < x := by
  rw [Int32.le_iff_toInt_le, Int32.lt_iff_toInt_lt, nI_toInt (by omega), nI_toInt (by omega)]
  omega
theorem pl5 (hM2 : 2 ≤ M) (hM : M ≤ 5) : fitP g M (2 + M * (M + 1) + 3 * c + 2) ↔ dgt (g (2 + M * (M + 1) + 3 * c + 2)) 0 (M - 1) := by
  have e1 : (2 + M * (M + 1) + 3 * c + 2 - (2 + M * (M + 1))) % 3 = 2 := by omega
  constructor
  · intro h
    have h2 := (h.2.2.2 (by omega) (by omega) (by omega)).2.2 (by omega) (by omega)
    exact ⟨h2.1, (nI_lt_le hM2 hM).mp h2.2⟩
  · intro h
    exact ⟨fun q => absurd q (by omega), fun q => absurd q (by omega), fun _ _ q => absurd q (by omega), fun _ _ _ => ⟨fun q => absurd q (by omega), fun q => absurd q (by omega), fun _ _ => ⟨h.1, (nI_lt_le hM2 hM).mpr h.2⟩⟩⟩
theorem all_row (hM2 : 2 ≤ M) (hM : M ≤ 5) (hm : m < M) (hall : ∀ q, q < 2 + m * (M + 1) → fitP g M q) (h1 : g (2 + m * (M + 1)) = nI 44) (h2 : ∀ b, b < M → dgt (g (2 + m * (M + 1) + 1 + b)) 0 (if b = m then 0 else 9)) : ∀ q, q < 2 + (m + 1) * (M + 1) → fitP g M q := by
  intro q hq
  rw [Nat.succ_mul] at hq
  rcases Nat.lt_or_ge q (2 + m * (M + 1)) with c | c
  · exact hall q c
  · rcases Nat.lt_or_ge q (2 + m * (M + 1) + 1) with d | d
    · have e : q = 2 + m * (M + 1) := by omega
      rw [e]; exact (pl1 hM2 hM hm).mpr h1
    · have e : q = 2 + m * (M + 1) + 1 + (q - (2 + m * (M + 1) + 1)) := by omega
      rw [e]; exact (pl2 hM2 hM hm (by omega)).mpr (h2 _ (by omega))
theorem all_part (hM2 : 2 ≤ M) (hM : M ≤ 5) (hm : m < M) (hb : b ≤ M) (hall : ∀ q, q < 2 + m * (M + 1) → fitP g M q) (h1 : g (2 + m * (M + 1)) = nI 44) (h2 : ∀ c, c < b → dgt (g (2 + m * (M + 1) + 1 + c)) 0 (if c = m then 0 else 9)) : ∀ q, q < 2 + m * (M + 1) + 1 + b → fitP g M q := by
  intro q hq
  rcases Nat.lt_or_ge q (2 + m * (M + 1)) with c | c
  · exact hall q c
  · rcases Nat.lt_or_ge q (2 + m * (M + 1) + 1) with d | d
    · have e : q = 2 + m * (M + 1) := by omega
      rw [e]; exact (pl1 hM2 hM hm).mpr h1
    · have e : q = 2 + m * (M + 1) + 1 + (q - (2 + m * (M + 1) + 1)) := by omega
      rw [e]; exact (pl2 hM2 hM hm (by omega)).mpr (h2 _ (by omega))
theorem all_up {P : Nat → Prop} {p : Nat} (h : ∀ q, q < p → P q) (hp : P p) : ∀ q, q < p + 1 → P q := fun q hq => by
  rcases Nat.lt_or_ge q p with c | c
  · exact h q c
  · have e : q = p := by omega
    rw [e]; exact hp
theorem nc_lt (h : n ≤ 2 + M * (M + 1)) : ¬ cmpl M n := fun q => by have := q.1; omega
theorem dg_mT {x : Int32} : dgt x 2 5 ↔ (¬ x - nI 48 < nI 2 ∧ ¬ nI 5 < x - nI 48) := by
  constructor
  · intro h
    obtain ⟨h1, h2, h3, _⟩ := dg_of h (by omega) (by omega)
    rw [h1]
    exact ⟨fun q => by have := (nI_ltI (by omega) (by omega)).mp q; omega, fun q => by have := (nI_ltI (by omega) (by omega)).mp q; omega⟩
  · rintro ⟨h1, h2⟩
    obtain ⟨_, h3, h4, h5⟩ := mT_in h1 h2
    have e : x = nI (tn (x - nI 48) + 48) := by
      have e1 : x - nI 48 + nI 48 = x := Int32.sub_add_cancel x (nI 48)
      rw [h5, nI_add] at e1
      exact e1.symm
    generalize tn (x - nI 48) = t at e h3 h4
    rw [e]
    exact ⟨fun q => by have := (nI_ltI (by omega) (by omega)).mp q; omega, fun q => by have := (nI_ltI (by omega) (by omega)).mp q; omega⟩
end PLC
