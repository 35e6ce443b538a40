/-! ===== equal towns, equal answers: the third part ===== -/
section AGT
variable {P P2 K K2 U U2 : Nat → Int32} {M B m u : Nat}
theorem q_walk (h : eqP P P2 M) (hU : eqB U U2 B) (hM : M ≤ 5) (hB : B ≤ 4) (hu : ∀ b, b < B → vp_in (U b) M) (g : Nat → Int32) (fv b k lane n : Int32) : s_walk B M P U g fv b k lane n = s_walk B M P2 U2 g fv b k lane n :=
  q_iF (fun hb => q_iF (fun _ => q_iF (fun _ => q_iF (fun _ => q_iF (fun _ => by
    have h1 := q_in hb (by omega)
    rw [← hU _ h1, q_wkv h (q_in (hu _ h1) (by omega))])))))
theorem q_ab (h : eqP P P2 M) (hK : eqB K K2 B) (hU : eqB U U2 B) (hM : M ≤ 5) (hu : ∀ b, b < B → vp_in (U b) M) (n : Nat) : ∀ b, b ≤ B → ab P M K U n b = ab P2 M K2 U2 n b
  | 0, _ => rfl
  | b + 1, hb => by
    have h1 := q_in (hu b (by omega)) (by omega)
    show iF _ _ _ = iF _ _ _
    rw [q_ab h hK hU hM hu n b (by omega), ← hU b (by omega), ← hK b (by omega), q_wh h h1 n, q_kn h h1]
theorem q_able (h : eqP P P2 M) (hK : eqB K K2 B) (hU : eqB U U2 B) (hM : M ≤ 5) (hu : ∀ b, b < B → vp_in (U b) M) (n : Int32) : s_able B M P K U n = s_able B M P2 K2 U2 n := by
  unfold s_able
  rw [q_ab h hK hU hM hu (tn n) B (Nat.le_refl B)]
def eqK (k k2 : Int32) : Prop := (k = (-1) ∧ k2 = (-9)) ∨ (k ≠ (-1) ∧ k2 ≠ (-9) ∧ k = k2)
theorem q_isS (h : eqP P P2 M) (hK : eqB K K2 B) (hU : eqB U U2 B) (hM : M ≤ 5) (hu : ∀ b, b < B → vp_in (U b) M) {w t r : Nat} {k k2 : Int32} (hw : w < B) (hk : eqK k k2) : isS (-1) P M K U w t r k ↔ isS (-9) P2 M K2 U2 w t r k2 := by
  have h1 := q_in (hu w hw) (by omega)
  unfold isS
  rw [← hU w hw, ← hK w hw, q_wh h h1, q_kn h h1]
  rcases hk with ⟨a, b⟩ | ⟨a, b, c⟩
  · rw [a, b]
    exact ⟨fun q => q.elim (fun q => Or.inl ⟨rfl, q.2⟩) (fun q => absurd rfl q.1), fun q => q.elim (fun q => Or.inl ⟨rfl, q.2⟩) (fun q => absurd rfl q.1)⟩
  · subst c
    exact ⟨fun q => q.elim (fun q => absurd q.1 a) (fun q => Or.inr ⟨b, q.2⟩), fun q => q.elim (fun q => absurd q.1 b) (fun q => Or.inr ⟨a, q.2⟩)⟩
/-- the readings agree -/
def eqR (W1 N1 M1 K1 W2 N2 M2 K2 : Nat → Int32) (B R : Nat) : Prop := ∀ q, q < R → W1 q = W2 q ∧ N1 q = N2 q ∧ M1 q = M2 q ∧ eqK (K1 q) (K2 q) ∧ vp_in (W1 q) B
variable {W1 N1 M1 K1 W3 N3 M3 K3 : Nat → Int32} {R : Nat}
theorem q_alls (h : eqP P P2 M) (hK : eqB K K2 B) (hU : eqB U U2 B) (hM : M ≤ 5) (hB : B ≤ 4) (hu : ∀ b, b < B → vp_in (U b) M) (hr : eqR W1 N1 M1 K1 W3 N3 M3 K3 B R) : alls (-1) P M K U W1 N1 M1 K1 R ↔ alls (-9) P2 M K2 U2 W3 N3 M3 K3 R := by
  unfold alls
  rw [fi_congr (q := fun q => ¬ isS (-9) P2 M K2 U2 (tn (W3 q)) (tn (N3 q)) (tn (M3 q)) (K3 q)) (fun q hq => by
    obtain ⟨a, b, c, d, e⟩ := hr q hq
    rw [← a, ← b, ← c, q_isS h hK hU hM hu (q_in e (by omega)) d])]
theorem q_debts (h : eqP P P2 M) (hK : eqB K K2 B) (hU : eqB U U2 B) (hM : M ≤ 5) (hB : B ≤ 4) (hu : ∀ b, b < B → vp_in (U b) M) (hr : eqR W1 N1 M1 K1 W3 N3 M3 K3 B R) (a b : Int32) : s_debts (-1) M P K U W1 N1 M1 K1 R a b = s_debts (-9) M P2 K2 U2 W3 N3 M3 K3 R a b :=
  q_iF (fun hh => setS_congr (fun k _ => q_alls (q_upP h hM (q_in hh.1 (by omega)) (q_in hh.2.1 (by omega)) (nI k)) hK hU hM hB hu hr))
theorem q_bound (h : eqP P P2 M) (hK : eqB K K2 B) (hU : eqB U U2 B) (hM : M ≤ 5) (hB : B ≤ 4) (hu : ∀ b, b < B → vp_in (U b) M) (hr : eqR W1 N1 M1 K1 W3 N3 M3 K3 B R) (b : Int32) : s_bound (-1) B M P K U W1 N1 M1 K1 R b = s_bound (-9) B M P2 K2 U2 W3 N3 M3 K3 R b :=
  q_iF (fun hh => setS_congr (fun k hk => q_alls h hK (q_upB hU (tn b) (nI k)) hM hB (fun c hc => by
    by_cases e : c = tn b
    · rw [e, up_s]; exact vp_in_nI hk (by omega)
    · rw [up_o e]; exact hu c hc) hr))
theorem q_kinds (h : eqP P P2 M) (hK : eqB K K2 B) (hU : eqB U U2 B) (hM : M ≤ 5) (hB : B ≤ 4) (hu : ∀ b, b < B → vp_in (U b) M) (hr : eqR W1 N1 M1 K1 W3 N3 M3 K3 B R) (b : Int32) : s_kinds (-1) B M P K U W1 N1 M1 K1 R b = s_kinds (-9) B M P2 K2 U2 W3 N3 M3 K3 R b :=
  q_iF (fun hh => setS_congr (fun k _ => q_alls h (q_upB hK (tn b) (nI k)) hU hM hB hu hr))
theorem q_pdp (h : eqP P P2 M) (hM : M ≤ 5) (pay : Nat) : ∀ a, a ≤ M → eqP (pdp P M pay a) (pdp P2 M pay a) M
  | 0, _ => h
  | a + 1, ha => by
    have ih := q_pdp h hM pay a (by omega)
    show eqP (iF _ _ _) (iF _ _ _) M
    by_cases q : pb pay a
    · rw [iF_t q, iF_t q, ← q_nxt h (show a < M by omega)]
      exact q_upP ih hM (by omega) (nxt_lt (by omega)) _
    · rw [iF_f q, iF_f q]; exact ih
theorem q_oc (h : eqP P P2 M) (hM : M ≤ 5) (hu : u < M) (n g : Nat) : ∀ k, oc P M u n g k = oc P2 M u n g k
  | 0 => rfl
  | k + 1 => by
    show iF _ _ _ = iF _ _ _
    rw [q_oc h hM hu n g k, q_wh (q_pdp h hM k M (Nat.le_refl M)) hu]
theorem q_odds (h : eqP P P2 M) (hU : eqB U U2 B) (hM : M ≤ 5) (hB : B ≤ 4) (hu : ∀ b, b < B → vp_in (U b) M) (b m n w : Int32) : s_odds B M P U b m n w = s_odds B M P2 U2 b m n w :=
  q_iF (fun hb => q_iF (fun _ => q_iF (fun _ => q_iF (fun _ => by
    have h1 := q_in hb (by omega)
    rw [← hU _ h1, q_oc h hM (q_in (hu _ h1) (by omega))]))))
end AGT
