/-! ===== the reference reads a town ===== -/
abbrev dgt (x : Int32) (lo hi : Nat) : Prop := ¬ x < nI (48 + lo) ∧ ¬ nI (48 + hi) < x
def d9 (x : Int32) : Nat := tn (x - nI 48)
theorem rng_of {x : Int32} {a b : Nat} (ha : a < 2 ^ 30) (hb : b < 2 ^ 30) (h1 : ¬ x < nI a) (h2 : ¬ nI b < x) : ∃ j, x = nI j ∧ a ≤ j ∧ j ≤ b := by
  have h0 : ¬ x < 0 := fun q => h1 (by
    rw [Int32.lt_iff_toInt_lt] at q ⊢
    have e2 : (0 : Int32).toInt = 0 := by decide
    rw [nI_toInt (by omega)]
    rw [e2] at q
    omega)
  obtain ⟨j, hj, rfl⟩ := nI_of h0
  refine ⟨j, rfl, ?_, ?_⟩
  · exact Nat.le_of_not_lt (fun q => h1 ((nI_ltI hj (by omega)).mpr q))
  · exact Nat.le_of_not_lt (fun q => h2 ((nI_ltI (by omega) hj).mpr q))
theorem dg_of {x : Int32} {lo hi : Nat} (h : dgt x lo hi) (hl : lo ≤ 9) (hh : hi ≤ 9) : x - nI 48 = nI (d9 x) ∧ lo ≤ d9 x ∧ d9 x ≤ hi ∧ x = nI (48 + d9 x) := by
  obtain ⟨j, rfl, h1, h2⟩ := rng_of (by omega) (by omega) h.1 h.2
  have e : nI j - nI 48 = nI (j - 48) := pk_sub (by omega)
  have e2 : d9 (nI j) = j - 48 := by
    unfold d9; rw [e]; exact tn_nI (by omega)
  rw [e2, e]
  exact ⟨rfl, by omega, by omega, by rw [show 48 + (j - 48) = j by omega]⟩
def okM (CE : Nat → Int32) (q z m b : Nat) : Prop := q + b < z ∧ dgt (CE (q + b)) 0 (if b = m then 0 else 9)
def rmF (RP CE : Nat → Int32) (m q : Nat) : Nat → Nat → Int32
  | 0 => RP
  | b + 1 => upd (rmF RP CE m q b) (m * 5 + b) (nI (d9 (CE (q + b))))
def rtP (RP CE : Nat → Int32) (M q : Nat) : Nat → Nat → Int32
  | 0 => RP
  | m + 1 => rmF (rtP RP CE M q m) CE m (q + 2 + m * (M + 1) + 1) M
def k9 (x : Int32) : Nat := tn (x - nI 98)
def rtK (RK CE : Nat → Int32) (q : Nat) : Nat → Nat → Int32
  | 0 => RK
  | c + 1 => upd (rtK RK CE q c) c (nI (k9 (CE (q + 3 * c + 1))))
def rtB (RB CE : Nat → Int32) (q : Nat) : Nat → Nat → Int32
  | 0 => RB
  | c + 1 => upd (rtB RB CE q c) c (nI (d9 (CE (q + 3 * c + 2))))
theorem kn_of {x : Int32} (h1 : ¬ x < nI 98) (h2 : ¬ nI 100 < x) : k9 x ≤ 2 ∧ x = nI (98 + k9 x) := by
  obtain ⟨j, rfl, h3, h4⟩ := rng_of (by omega) (by omega) h1 h2
  have e : nI j - nI 98 = nI (j - 98) := pk_sub (by omega)
  have e2 : k9 (nI j) = j - 98 := by
    unfold k9; rw [e]; exact tn_nI (by omega)
  rw [e2]
  exact ⟨by omega, by rw [show 98 + (j - 98) = j by omega]⟩
def okT (g : Nat → Int32) (M n : Nat) : Prop := ffo g M n = none ∧ cmpl M n
noncomputable def ffP (g : Nat → Int32) (M n : Nat) : Nat := (ffo g M n).getD n
theorem ff_at {g : Nat → Int32} {M n p : Nat} (hall : ∀ q, q < p → fitP g M q) (hp : p ≤ n) (hno : p < n → ¬ fitP g M p) (hc : p = n → ¬ cmpl M n) : ffP g M n = p ∧ ¬ okT g M n := by
  have h0 : fi (fun p => ¬ fitP g M p) p = none := fi_none.mpr (fun k hk h => h (hall k hk))
  rcases Nat.lt_or_ge p n with q | q
  · have h1 : ffo g M n = some p := fi_hit h0 (hno q) q
    unfold ffP okT
    rw [h1]
    exact ⟨rfl, fun h => by cases h.1⟩
  · have e : p = n := by omega
    subst e
    have h1 : ffo g M p = none := h0
    unfold ffP okT
    rw [h1]
    exact ⟨rfl, fun h => hc rfl h.2⟩
theorem ok_at {g : Nat → Int32} {M n : Nat} (hall : ∀ q, q < n → fitP g M q) (hc : cmpl M n) : okT g M n := ⟨fi_none.mpr (fun k hk h => h (hall k hk)), hc⟩
theorem qz_le {CE : Nat → Int32} {q z m k : Nat} (hq : q ≤ z) (hz : z ≤ 240) (h : ∀ b, b < k → okM CE q z m b) : q + k ≤ 240 := by
  rcases Nat.eq_zero_or_pos k with e | e
  · omega
  · have := (h (k - 1) (by omega)).1
    omega
theorem k9_0 {x : Int32} (h : x = nI 98) : nI 0 = nI (k9 x) := by subst h; decide
theorem k9_1 {x : Int32} (h : x = nI 99) : nI 1 = nI (k9 x) := by subst h; decide
theorem k9_2 {x : Int32} (h : x = nI 100) : nI 2 = nI (k9 x) := by subst h; decide
theorem k9_r {x : Int32} (h : x = nI 98 ∨ x = nI 99 ∨ x = nI 100) : ¬ x < nI 98 ∧ ¬ nI 100 < x := by
  rcases h with rfl | rfl | rfl <;> decide
theorem k9_no {x : Int32} (h0 : ¬ x = nI 98) (h1 : ¬ x = nI 99) (h2 : ¬ x = nI 100) : ¬ (k9 x ≤ 2 ∧ x = nI (98 + k9 x)) := by
  rintro ⟨a, b⟩
  rcases (show k9 x = 0 ∨ k9 x = 1 ∨ k9 x = 2 by omega) with e | e | e
  · rw [e] at b; exact h0 b
  · rw [e] at b; exact h1 b
  · rw [e] at b; exact h2 b
