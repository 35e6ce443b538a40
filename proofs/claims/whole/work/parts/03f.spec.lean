/-! ===== odds ===== -/
def pb (pay a : Nat) : Prop := (nI pay >>> (nI a &&& 31)) &&& nI 1 = nI 1
/-- the debts, those paid by the set pay, of the first j masters -/
noncomputable def pdp (P : Nat → Int32) (M pay : Nat) : Nat → Nat → Int32
  | 0 => P
  | a + 1 => iF (pb pay a) (upd (pdp P M pay a) (a * 5 + nxt P M a) (nI 0)) (pdp P M pay a)
noncomputable def oc (P : Nat → Int32) (M u n g : Nat) : Nat → Nat
  | 0 => 0
  | k + 1 => iF (wh (pdp P M k M) M u n = g) (oc P M u n g k + 1) (oc P M u n g k)
def stp {α : Type} (a b : α) : Nat → α
  | 0 => a
  | _ + 1 => b
noncomputable def opF (P f : Nat → Int32) (M : Nat) : Nat → Nat → Int32
  | 0 => f
  | k + 1 => pdp P M k M
noncomputable def ipF (P f : Nat → Int32) (M pay : Nat) : Nat → Nat → Int32
  | 0 => f
  | a + 1 => upd (ipF P f M pay a) (a * 5 + nxt P M a) (iF (pb pay a) (nI 0) (P (a * 5 + nxt P M a)))
noncomputable def rsF (P f : Nat → Int32) (M : Nat) : Nat → Nat → Int32
  | 0 => f
  | a + 1 => upd (rsF P f M a) (a * 5 + nxt P M a) (P (a * 5 + nxt P M a))
noncomputable def moF (P f : Nat → Int32) (M : Nat) : Nat → Nat → Int32
  | 0 => f
  | a + 1 => upd (moF P f M a) a (nI (nxt P M a))
noncomputable def muF (P f : Nat → Int32) (M : Nat) : Nat → Nat → Int32
  | 0 => f
  | a + 1 => upd (muF P f M a) a (P (a * 5 + nxt P M a))
theorem upS (f : Nat → Int32) (k : Nat) (x : Int32) : upd f k x k = x := if_pos rfl
theorem upN {f : Nat → Int32} {k j : Nat} {x : Int32} (h : j ≠ k) : upd f k x j = f j := if_neg h
theorem moF_at {P f : Nat → Int32} {M : Nat} : ∀ {k a : Nat}, a < k → moF P f M k a = nI (nxt P M a)
  | 0, a, h => absurd h (Nat.not_lt_zero a)
  | k + 1, a, h => by
    show upd (moF P f M k) k (nI (nxt P M k)) a = _
    by_cases e : a = k
    · subst e; exact upS _ _ _
    · rw [upN e]; exact moF_at (by omega)
theorem muF_at {P f : Nat → Int32} {M : Nat} : ∀ {k a : Nat}, a < k → muF P f M k a = P (a * 5 + nxt P M a)
  | 0, a, h => absurd h (Nat.not_lt_zero a)
  | k + 1, a, h => by
    show upd (muF P f M k) k (P (k * 5 + nxt P M k)) a = _
    by_cases e : a = k
    · subst e; exact upS _ _ _
    · rw [upN e]; exact muF_at (by omega)
/-- f stands as P but at the spots where each owes most -/
def offP (P f : Nat → Int32) (M : Nat) : Prop := ∀ i, (∀ a, a < M → i ≠ a * 5 + nxt P M a) → f i = P i
theorem off_pdp {P : Nat → Int32} {M pay : Nat} : ∀ j, j ≤ M → offP P (pdp P M pay j) M
  | 0, _ => fun _ _ => rfl
  | j + 1, h => fun i hi => by
    show iF (pb pay j) (upd (pdp P M pay j) (j * 5 + nxt P M j) (nI 0)) (pdp P M pay j) i = P i
    by_cases e : pb pay j
    · rw [iF_t e, upN (hi j (by omega))]
      exact off_pdp j (by omega) i hi
    · rw [iF_f e]
      exact off_pdp j (by omega) i hi
theorem off_op {P : Nat → Int32} {M : Nat} : ∀ k, offP P (opF P P M k) M
  | 0 => fun _ _ => rfl
  | _ + 1 => off_pdp M (Nat.le_refl M)
theorem ip_eq {P f : Nat → Int32} {M pay : Nat} (hM : M ≤ 5) : ∀ j, j ≤ M → ∀ i, ((∃ a, a < j ∧ i = a * 5 + nxt P M a) → ipF P f M pay j i = pdp P M pay j i) ∧ ((∀ a, a < j → i ≠ a * 5 + nxt P M a) → ipF P f M pay j i = f i)
  | 0, _, i => ⟨fun ⟨a, h, _⟩ => absurd h (Nat.not_lt_zero a), fun _ => rfl⟩
  | j + 1, hj, i => by
    have ih := ip_eq (P := P) (f := f) (pay := pay) hM j (by omega) i
    have hjl := nxt_lt (P := P) (show j < M by omega)
    constructor
    · rintro ⟨a, ha, e⟩
      show upd (ipF P f M pay j) (j * 5 + nxt P M j) (iF (pb pay j) (nI 0) (P (j * 5 + nxt P M j))) i = iF (pb pay j) (upd (pdp P M pay j) (j * 5 + nxt P M j) (nI 0)) (pdp P M pay j) i
      have hal := nxt_lt (P := P) (show a < M by omega)
      by_cases q : a = j
      · subst q
        rw [e, upS]
        by_cases q2 : pb pay a
        · rw [iF_t q2, iF_t q2, upS]
        · rw [iF_f q2, iF_f q2]
          symm
          have : ∀ m, m ≤ a → pdp P M pay m (a * 5 + nxt P M a) = P (a * 5 + nxt P M a) := by
            intro m
            induction m with
            | zero => intro _; rfl
            | succ m ihm =>
              intro hm
              have hml := nxt_lt (P := P) (show m < M by omega)
              show iF (pb pay m) (upd (pdp P M pay m) (m * 5 + nxt P M m) (nI 0)) (pdp P M pay m) _ = _
              by_cases q3 : pb pay m
              · rw [iF_t q3, upN (by omega)]; exact ihm (by omega)
              · rw [iF_f q3]; exact ihm (by omega)
          exact this a (Nat.le_refl a)
      · have ne : i ≠ j * 5 + nxt P M j := by omega
        rw [upN ne, ih.1 ⟨a, by omega, e⟩]
        by_cases q2 : pb pay j
        · rw [iF_t q2, upN ne]
        · rw [iF_f q2]
    · intro h
      show upd (ipF P f M pay j) (j * 5 + nxt P M j) _ i = f i
      rw [upN (h j (by omega))]
      exact ih.2 (fun a ha => h a (by omega))
theorem ip_end {P f : Nat → Int32} {M pay : Nat} (hM : M ≤ 5) (hf : offP P f M) : ipF P f M pay M = pdp P M pay M := by
  funext i
  by_cases h : ∃ a, a < M ∧ i = a * 5 + nxt P M a
  · exact (ip_eq hM M (Nat.le_refl M) i).1 h
  · have h2 : ∀ a, a < M → i ≠ a * 5 + nxt P M a := fun a ha e => h ⟨a, ha, e⟩
    rw [(ip_eq hM M (Nat.le_refl M) i).2 h2, hf i h2, off_pdp M (Nat.le_refl M) i h2]
theorem rs_eq {P f : Nat → Int32} {M : Nat} (i : Nat) : ∀ j, j ≤ M → ((∃ a, a < j ∧ i = a * 5 + nxt P M a) → rsF P f M j i = P i) ∧ ((∀ a, a < j → i ≠ a * 5 + nxt P M a) → rsF P f M j i = f i)
  | 0, _ => ⟨fun ⟨a, h, _⟩ => absurd h (Nat.not_lt_zero a), fun _ => rfl⟩
  | j + 1, hj => by
    have ih := rs_eq (P := P) (f := f) (M := M) i j (by omega)
    constructor
    · rintro ⟨a, ha, e⟩
      show upd (rsF P f M j) (j * 5 + nxt P M j) (P (j * 5 + nxt P M j)) i = P i
      by_cases q : i = j * 5 + nxt P M j
      · rw [q, upS]
      · rw [upN q]
        refine ih.1 ⟨a, ?_, e⟩
        rcases Nat.lt_or_ge a j with r | r
        · exact r
        · have : a = j := by omega
          subst this; exact absurd e q
    · intro h
      show upd (rsF P f M j) (j * 5 + nxt P M j) _ i = f i
      rw [upN (h j (by omega))]
      exact ih.2 (fun a ha => h a (by omega))
theorem rs_end {P f : Nat → Int32} {M : Nat} (hf : offP P f M) : rsF P f M M = P := by
  funext i
  by_cases h : ∃ a, a < M ∧ i = a * 5 + nxt P M a
  · exact (rs_eq i M (Nat.le_refl M)).1 h
  · have h2 : ∀ a, a < M → i ≠ a * 5 + nxt P M a := fun a ha e => h ⟨a, ha, e⟩
    rw [(rs_eq i M (Nat.le_refl M)).2 h2, hf i h2]
theorem hz_pdp {P : Nat → Int32} {M pay : Nat} (hz : ∀ j, j < M → P (j * 5 + j) = nI 0) : ∀ j, ∀ a, a < M → pdp P M pay j (a * 5 + a) = nI 0
  | 0, a, h => hz a h
  | j + 1, a, h => by
    show iF (pb pay j) (upd (pdp P M pay j) (j * 5 + nxt P M j) (nI 0)) (pdp P M pay j) (a * 5 + a) = nI 0
    by_cases e : pb pay j
    · rw [iF_t e]
      by_cases q : a * 5 + a = j * 5 + nxt P M j
      · rw [q, upS]
      · rw [upN q]; exact hz_pdp hz j a h
    · rw [iF_f e]; exact hz_pdp hz j a h
theorem shl_pow : ∀ M, M ≤ 5 → nI 1 <<< (nI M &&& 31) = nI (2 ^ M) := by decide +kernel
theorem shl_powL : ∀ M, M ≤ 5 → lN 1 <<< ((nI M).toInt64 &&& 63) = lN (2 ^ M) := by decide +kernel
theorem pow_le : ∀ M, M ≤ 5 → 2 ^ M ≤ 32 := by decide
theorem oc_le {P : Nat → Int32} {M u n g : Nat} : ∀ k, oc P M u n g k ≤ k
  | 0 => Nat.le_refl 0
  | k + 1 => by
    have ih := oc_le (P := P) (M := M) (u := u) (n := n) (g := g) k
    show iF _ _ _ ≤ k + 1
    rcases iF_either (P := wh (pdp P M k M) M u n = g) (a := oc P M u n g k + 1) (b := oc P M u n g k) with e | e
    · rw [e]; omega
    · rw [e]; omega
/-- Euclid, k steps -/
def exy (u d : Nat) : Nat → Nat × Nat
  | 0 => (u, d)
  | k + 1 => ((exy u d k).2, (exy u d k).1 % (exy u d k).2)
noncomputable def odv (c M : Nat) (w : Int32) : Int64 := iF (w = 0) (lN (c / Nat.gcd c (2 ^ M))) (lN (2 ^ M / Nat.gcd c (2 ^ M)))
def hvP (M c j : Nat) : Prop := (c ≤ 2 ^ M ∧ j ≤ M ∧ ¬ (1 < 2 ^ (M - j) ∧ c / 2 ^ j % 2 = 0) ∧ ∀ i, i < j → 1 < 2 ^ (M - i) ∧ c / 2 ^ i % 2 = 0) → c / 2 ^ j = c / Nat.gcd c (2 ^ M) ∧ 2 ^ (M - j) = 2 ^ M / Nat.gcd c (2 ^ M)
def hvD (M c j : Nat) : Decidable (hvP M c j) := by unfold hvP; infer_instance
theorem hv_dec : ∀ M, M < 6 → ∀ c, c < 33 → ∀ j, j < 6 → hvP M c j := by
  have h : (List.range 6).all (fun M => (List.range 33).all (fun c => (List.range 6).all (fun j => @decide (hvP M c j) (hvD M c j)))) = true := by decide +kernel
  intro M hM c hc j hj
  have h1 := List.all_eq_true.mp h M (List.mem_range.mpr hM)
  have h2 := List.all_eq_true.mp h1 c (List.mem_range.mpr hc)
  have h3 := List.all_eq_true.mp h2 j (List.mem_range.mpr hj)
  exact @of_decide_eq_true _ (hvD M c j) h3
theorem hv_eq : ∀ M, M ≤ 5 → ∀ c, c ≤ 2 ^ M → ∀ j, j ≤ M → ¬ (1 < 2 ^ (M - j) ∧ c / 2 ^ j % 2 = 0) → (∀ i, i < j → 1 < 2 ^ (M - i) ∧ c / 2 ^ i % 2 = 0) → c / 2 ^ j = c / Nat.gcd c (2 ^ M) ∧ 2 ^ (M - j) = 2 ^ M / Nat.gcd c (2 ^ M) := by
  intro M hM c hc j hj h1 h2
  have hp := pow_le M hM
  exact hv_dec M (by omega) c (by omega) j (by omega) ⟨hc, hj, h1, h2⟩
noncomputable def s_odds (B M : Nat) (P U : Nat → Int32) (b m n w : Int32) : Int64 := iF (vp_in b B) (iF (vp_in m M) (iF (vp_in n (20 + 1)) (iF (vp_in w (1 + 1)) (odv (oc P M (tn (U (tn b))) (tn n) (tn m) (2 ^ M)) M w) (-9223372036854775808)) (-9223372036854775808)) (-9223372036854775808)) (-9223372036854775808)
noncomputable def odG {α : Type} (B M : Nat) (b m n w : Int32) (x z : α) : α := iF (vp_in b B) (iF (vp_in m M) (iF (vp_in n (20 + 1)) (iF (vp_in w (1 + 1)) x z) z) z) z
theorem div_st (c j : Nat) : c / 2 ^ j / 2 = c / 2 ^ (j + 1) := by rw [Nat.div_div_eq_div_mul, Nat.pow_succ]
theorem pow_st {M j : Nat} (h : j < M) : 2 ^ (M - j) / 2 = 2 ^ (M - (j + 1)) := by
  rw [show M - j = (M - (j + 1)) + 1 by omega, Nat.pow_succ, Nat.mul_div_cancel _ (by decide)]
theorem lcz {y : Nat} (h : y < 2 ^ 31) : lg_cmp (lN y) (lN 0) = bI (0 < y) := by
  unfold lg_cmp
  rcases Nat.eq_zero_or_pos y with q | q
  · subst q
    rw [bI_f (by omega)]
    simp
  · rw [bI_t q]
    rw [if_pos ((lN_lt (by omega) h).mpr q)]
theorem lnz {y : Nat} (h0 : 0 < y) (h : y < 2 ^ 31) : ¬ lN y = 0 := fun e => by
  have : y = 0 := (lN_eq h (by omega : 0 < 2 ^ 31)).mp e
  omega
