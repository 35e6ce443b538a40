/-! ===== the text of a town ===== -/
noncomputable def mT (g : Nat → Int32) (n : Nat) : Nat := iF (1 < n ∧ ¬ g 1 - nI 48 < nI 2 ∧ ¬ nI 5 < g 1 - nI 48) (tn (g 1 - nI 48)) 0
def fitD (g : Nat → Int32) (M p : Nat) : Prop := ((p - 2) % (M + 1) = 0 → g p = nI 44) ∧ ((p - 2) % (M + 1) ≠ 0 → ¬ g p < nI 48 ∧ ¬ iF ((p - 2) % (M + 1) - 1 = (p - 2) / (M + 1)) (nI 48) (nI 57) < g p)
def fitB (g : Nat → Int32) (M p : Nat) : Prop := ((p - (2 + M * (M + 1))) % 3 = 0 → g p = nI 59 ∧ (p - (2 + M * (M + 1))) / 3 < 4) ∧ ((p - (2 + M * (M + 1))) % 3 = 1 → ¬ g p < nI 98 ∧ ¬ nI 100 < g p) ∧ ((p - (2 + M * (M + 1))) % 3 ≠ 0 → (p - (2 + M * (M + 1))) % 3 ≠ 1 → ¬ g p < nI 48 ∧ ¬ nI (48 + M) ≤ g p)
def fitP (g : Nat → Int32) (M p : Nat) : Prop := (p = 0 → g 0 = nI 106) ∧ (p = 1 → 0 < M) ∧ (p ≠ 0 → p ≠ 1 → p < 2 + M * (M + 1) → fitD g M p) ∧ (p ≠ 0 → p ≠ 1 → ¬ p < 2 + M * (M + 1) → fitB g M p)
noncomputable def ffo (g : Nat → Int32) (M n : Nat) : Option Nat := fi (fun p => ¬ fitP g M p) n
def cmpl (M n : Nat) : Prop := 2 + M * (M + 1) < n ∧ (n - (2 + M * (M + 1))) % 3 = 0
noncomputable def ffv (g : Nat → Int32) (M n : Nat) : Int32 := fiA (ffo g M n) nI (iF (cmpl M n) (-9) (nI n))
theorem mT_in {x : Int32} (h1 : ¬ x < nI 2) (h2 : ¬ nI 5 < x) : vp_in x 6 ∧ 2 ≤ tn x ∧ tn x ≤ 5 ∧ x = nI (tn x) := by
  have h0 : ¬ x < 0 := fun h => h1 (by
    have e : (0 : Int32) < nI 2 := by decide
    rw [Int32.lt_iff_toInt_lt] at h e ⊢
    omega)
  obtain ⟨j, hj, rfl⟩ := nI_of h0
  have a1 : 2 ≤ j := by
    rcases Nat.lt_or_ge j 2 with q | q
    · exact absurd ((nI_ltI hj (by omega)).mpr q) h1
    · exact q
  have a2 : j ≤ 5 := by
    rcases Nat.lt_or_ge 5 j with q | q
    · exact absurd ((nI_ltI (by omega) hj).mpr q) h2
    · exact q
  rw [tn_nI hj]
  exact ⟨vp_in_nI (by omega) (by omega), a1, a2, rfl⟩
theorem mT_no {g : Nat → Int32} {n : Nat} (h : ¬ (1 < n ∧ ¬ g 1 - nI 48 < nI 2 ∧ ¬ nI 5 < g 1 - nI 48)) : mT g n = 0 := by
  unfold mT; exact iF_f h
theorem mT_yes {g : Nat → Int32} {n : Nat} (h : 1 < n ∧ ¬ g 1 - nI 48 < nI 2 ∧ ¬ nI 5 < g 1 - nI 48) : g 1 - nI 48 = nI (mT g n) ∧ 2 ≤ mT g n ∧ mT g n ≤ 5 := by
  have e : mT g n = tn (g 1 - nI 48) := by unfold mT; exact iF_t h
  have hh := mT_in h.2.1 h.2.2
  rw [e]
  exact ⟨hh.2.2.2, hh.2.1, hh.2.2.1⟩
theorem mT_or (g : Nat → Int32) (n : Nat) : mT g n = 0 ∨ (2 ≤ mT g n ∧ mT g n ≤ 5) := by
  by_cases h : 1 < n ∧ ¬ g 1 - nI 48 < nI 2 ∧ ¬ nI 5 < g 1 - nI 48
  · exact Or.inr (mT_yes h).2
  · exact Or.inl (mT_no h)
/-- what the settled town has -/
def spI (P g : Nat → Int32) (M a : Nat) : Nat → Nat → Int32
  | 0 => P
  | b + 1 => upd (spI P g M a b) (a * 5 + b) (g (2 + a * (M + 1) + 1 + b) - nI 48)
def spO (P g : Nat → Int32) (M : Nat) : Nat → Nat → Int32
  | 0 => P
  | a + 1 => spI (spO P g M a) g M a M
def skK (K g : Nat → Int32) (M : Nat) : Nat → Nat → Int32
  | 0 => K
  | b + 1 => upd (skK K g M b) b (g (2 + M * (M + 1) + b * 3 + 1) - nI 98)
def skU (U g : Nat → Int32) (M : Nat) : Nat → Nat → Int32
  | 0 => U
  | b + 1 => upd (skU U g M b) b (g (2 + M * (M + 1) + b * 3 + 2) - nI 48)
theorem mm_le : ∀ M, M ≤ 5 → M * (M + 1) ≤ 30 := by decide
theorem nsub_le {n f : Nat} (h : n ≤ f) (hf : f < 2 ^ 30) : nI n - nI f ≤ 0 := by
  rw [Int32.le_iff_toInt_le, pk_sub_toInt (by omega) hf]
  have e : (0 : Int32).toInt = 0 := by decide
  rw [e]; omega
