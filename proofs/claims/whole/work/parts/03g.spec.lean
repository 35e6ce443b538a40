/-! ===== forge: notes ===== -/
def nxN (f : Nat → Nat) (m : Nat) : Nat → Nat
  | 0 => m
  | k + 1 => if f (nxN f m k) < f k then k else nxN f m k
def P9 (P : Nat → Int32) (M : Nat) : Prop := ∀ a c, a < M → c < M → vp_in (P (a * 5 + c)) (9 + 1)
theorem nx_nat {P : Nat → Int32} {M a : Nat} (hM : M ≤ 5) (ha : a < M) (h9 : P9 P M) : ∀ k, k ≤ M → nx P a k = nxN (fun c => tn (P (a * 5 + c))) a k
  | 0, _ => rfl
  | k + 1, hk => by
    have ih := nx_nat hM ha h9 k (by omega)
    have hl := nx_lt (P := P) ha k (by omega)
    show iF (P (a * 5 + nx P a k) < P (a * 5 + k)) k (nx P a k) = if tn (P (a * 5 + nxN _ a k)) < tn (P (a * 5 + k)) then k else nxN _ a k
    rw [← ih]
    have e1 := tn_of (h9 a (nx P a k) ha hl) (by omega)
    have e2 := tn_of (h9 a k ha (by omega)) (by omega)
    have l1 := tn_lt (h9 a (nx P a k) ha hl) (by omega)
    have l2 := tn_lt (h9 a k ha (by omega)) (by omega)
    by_cases q : tn (P (a * 5 + nx P a k)) < tn (P (a * 5 + k))
    · rw [if_pos q, iF_t]
      rw [e1, e2]
      exact (nI_ltI (by omega) (by omega)).mpr q
    · rw [if_neg q, iF_f]
      rw [e1, e2]
      exact fun h => q ((nI_ltI (by omega) (by omega)).mp h)
/-- what the NEXT is: no one is owed more; if it isn't himself, he owes him more than himself, and more than all before him -/
def isN (f : Nat → Nat) (m M r : Nat) : Prop := r < M ∧ (∀ j, j < M → f j ≤ f r) ∧ (r ≠ m → f m < f r ∧ ∀ j, j < r → f j < f r)
theorem nxN_is {f : Nat → Nat} {m M : Nat} (hm : m < M) : ∀ k, k ≤ M → nxN f m k < M ∧ (∀ j, j < k → f j ≤ f (nxN f m k)) ∧ f m ≤ f (nxN f m k) ∧ (nxN f m k ≠ m → f m < f (nxN f m k) ∧ nxN f m k < k ∧ ∀ j, j < nxN f m k → f j < f (nxN f m k))
  | 0, _ => ⟨hm, fun j h => absurd h (Nat.not_lt_zero j), Nat.le_refl _, fun h => absurd rfl h⟩
  | k + 1, hk => by
    obtain ⟨h1, h2, h3, h4⟩ := nxN_is (f := f) hm k (by omega)
    show (if f (nxN f m k) < f k then k else nxN f m k) < M ∧ (∀ j, j < k + 1 → f j ≤ f (if f (nxN f m k) < f k then k else nxN f m k)) ∧ f m ≤ f (if f (nxN f m k) < f k then k else nxN f m k) ∧ ((if f (nxN f m k) < f k then k else nxN f m k) ≠ m → f m < f (if f (nxN f m k) < f k then k else nxN f m k) ∧ (if f (nxN f m k) < f k then k else nxN f m k) < k + 1 ∧ ∀ j, j < (if f (nxN f m k) < f k then k else nxN f m k) → f j < f (if f (nxN f m k) < f k then k else nxN f m k))
    by_cases q : f (nxN f m k) < f k
    · rw [if_pos q]
      refine ⟨by omega, fun j hj => ?_, by omega, fun _ => ⟨by omega, by omega, fun j hj => ?_⟩⟩
      · rcases Nat.lt_or_ge j k with r | r
        · have := h2 j r; omega
        · have e : j = k := by omega
          subst e; exact Nat.le_refl _
      · have := h2 j hj; omega
    · rw [if_neg q]
      refine ⟨h1, fun j hj => ?_, h3, fun hne => ?_⟩
      · rcases Nat.lt_or_ge j k with r | r
        · exact h2 j r
        · have e : j = k := by omega
          subst e; omega
      · obtain ⟨g1, g2, g3⟩ := h4 hne
        exact ⟨g1, by omega, g3⟩
theorem isN_of {f : Nat → Nat} {m M : Nat} (hm : m < M) : isN f m M (nxN f m M) := by
  obtain ⟨h1, h2, h3, h4⟩ := nxN_is (f := f) hm M (Nat.le_refl M)
  exact ⟨h1, h2, fun hne => ⟨(h4 hne).1, (h4 hne).2.2⟩⟩
theorem isN_one {f : Nat → Nat} {m M r q : Nat} (hm : m < M) (h : isN f m M r) (g : isN f m M q) : r = q := by
  obtain ⟨h1, h2, h3⟩ := h
  obtain ⟨g1, g2, g3⟩ := g
  have e1 := h2 q g1
  have e2 := g2 r h1
  rcases Nat.lt_trichotomy r q with c | c | c
  · by_cases hq : q = m
    · by_cases hr : r = m
      · omega
      · have := (h3 hr).1
        rw [hq] at e2; omega
    · have := (g3 hq).2 r c; omega
  · exact c
  · by_cases hr : r = m
    · by_cases hq : q = m
      · omega
      · have := (g3 hq).1
        rw [hr] at e1; omega
    · have := (h3 hr).2 q c; omega
def rwN (P : Nat → Int32) (a : Nat) : Nat → Nat := fun c => tn (P (a * 5 + c))
theorem nxt_is {P : Nat → Int32} {M a r : Nat} (hM : M ≤ 5) (ha : a < M) (h9 : P9 P M) : nxt P M a = r ↔ isN (rwN P a) a M r := by
  have e : nxt P M a = nxN (rwN P a) a M := nx_nat hM ha h9 M (Nat.le_refl M)
  constructor
  · intro h
    rw [← h, e]
    exact isN_of ha
  · intro h
    rw [e]
    exact isN_one ha (isN_of ha) h
theorem P9_upd {P : Nat → Int32} {M i v : Nat} (h9 : P9 P M) (hv : v ≤ 9) : P9 (upd P i (nI v)) M := fun a c ha hc => by
  by_cases e : a * 5 + c = i
  · rw [e, upS]; exact vp_in_nI (by omega) (by omega)
  · rw [upN e]; exact h9 a c ha hc
theorem nxt_row {P P2 : Nat → Int32} {M j : Nat} (h : ∀ k, k < M → P (j * 5 + k) = P2 (j * 5 + k)) (hj : j < M) : nxt P M j = nxt P2 M j := by
  have key : ∀ k, k ≤ M → nx P j k = nx P2 j k := by
    intro k
    induction k with
    | zero => intro _; rfl
    | succ k ih =>
      intro hk
      have e := ih (by omega)
      have hl := nx_lt (P := P) hj k (by omega)
      show iF (P (j * 5 + nx P j k) < P (j * 5 + k)) k (nx P j k) = iF (P2 (j * 5 + nx P2 j k) < P2 (j * 5 + k)) k (nx P2 j k)
      rw [← e, h _ hl, h k (by omega)]
  exact key M (Nat.le_refl M)
theorem wh_next {P P2 : Nat → Int32} {M u : Nat} (hu : u < M) (h : ∀ j, j < M → nxt P M j = nxt P2 M j) : ∀ n, wh P M u n = wh P2 M u n
  | 0 => rfl
  | n + 1 => by
    show nxt P M (wh P M u n) = nxt P2 M (wh P2 M u n)
    rw [← wh_next hu h n]
    exact h _ (wh_lt hu n)
theorem nxt_off {P : Nat → Int32} {M a c j : Nat} {v : Int32} (hM : M ≤ 5) (hc : c < M) (hj : j < M) (hja : j ≠ a) : nxt (upd P (a * 5 + c) v) M j = nxt P M j := nxt_row (fun k hk => upN (by omega)) hj
/-- the raised debt turns the boys of a: to c, or not at all -/
theorem nxt_up {P : Nat → Int32} {M a c v : Nat} (hM : M ≤ 5) (ha : a < M) (hc : c < M) (hac : a ≠ c) (h9 : P9 P M) (hz : P (a * 5 + a) = nI 0) (hv : v ≤ 9) (hp : tn (P (a * 5 + c)) < v) :
    (nxt P M a = c ∨ tn (P (a * 5 + nxt P M a)) < v ∨ (tn (P (a * 5 + nxt P M a)) = v ∧ c < nxt P M a) → nxt (upd P (a * 5 + c) (nI v)) M a = c) ∧
    (¬ (nxt P M a = c ∨ tn (P (a * 5 + nxt P M a)) < v ∨ (tn (P (a * 5 + nxt P M a)) = v ∧ c < nxt P M a)) → nxt (upd P (a * 5 + c) (nI v)) M a = nxt P M a) := by
  have h9' := P9_upd (i := a * 5 + c) h9 hv
  obtain ⟨r, hr⟩ : ∃ r, r = nxt P M a := ⟨_, rfl⟩
  have hN := (nxt_is hM ha h9).mp hr.symm
  rw [← hr]
  obtain ⟨n1, n2, n3⟩ := hN
  have hf0 : rwN P a a = 0 := by
    show tn (P (a * 5 + a)) = 0
    rw [hz]; exact tn_nI (by omega)
  have g : ∀ j, j ≠ c → rwN (upd P (a * 5 + c) (nI v)) a j = rwN P a j := fun j hj => by
    show tn (upd P (a * 5 + c) (nI v) (a * 5 + j)) = tn (P (a * 5 + j))
    rw [upN (by omega)]
  have gc : rwN (upd P (a * 5 + c) (nI v)) a c = v := by
    show tn (upd P (a * 5 + c) (nI v) (a * 5 + c)) = v
    rw [upS]; exact tn_nI (by omega)
  have hpc : rwN P a c < v := hp
  have hpr : ∀ j, j < M → rwN P a j ≤ rwN P a r := n2
  constructor
  · intro h
    rw [nxt_is hM ha h9']
    refine ⟨hc, fun j hj => ?_, fun _ => ⟨?_, fun j hj => ?_⟩⟩
    · by_cases e : j = c
      · rw [e]; exact Nat.le_refl _
      · rw [g j e, gc]
        have := hpr j hj
        rcases h with h | h | h
        · rw [h] at this; omega
        · have h2 : rwN P a r < v := h; omega
        · have h2 : rwN P a r = v := h.1; omega
    · rw [g a hac, gc, hf0]; omega
    · rw [g j (by omega), gc]
      rcases h with h | h | h
      · have := (n3 (by omega)).2 j (by omega)
        rw [h] at this; omega
      · have h2 : rwN P a r < v := h
        have := hpr j (by omega); omega
      · have h2 : rwN P a r = v := h.1
        by_cases e : r = a
        · rw [e, hf0] at h2; omega
        · have := (n3 e).2 j (by omega); omega
  · intro h
    have hrc : r ≠ c := fun e => h (Or.inl e)
    have h2 : v ≤ rwN P a r := Nat.le_of_not_lt (fun q => h (Or.inr (Or.inl q)))
    rw [nxt_is hM ha h9']
    refine ⟨n1, fun j hj => ?_, fun hne => ⟨?_, fun j hj => ?_⟩⟩
    · by_cases e : j = c
      · rw [e, gc, g r hrc]; exact h2
      · rw [g j e, g r hrc]; exact hpr j hj
    · rw [g a hac, g r hrc]; exact (n3 hne).1
    · by_cases e : j = c
      · rw [e, gc, g r hrc]
        rcases Nat.lt_or_ge v (rwN P a r) with q | q
        · exact q
        · exact absurd (Or.inr (Or.inr ⟨(show rwN P a r = v by omega), by omega⟩)) h
      · rw [g j e, g r hrc]; exact (n3 hne).2 j hj
noncomputable def fgq (P : Nat → Int32) (M a c : Nat) : Option Nat := fi (fun k => nxt (upd P (a * 5 + c) (nI (tn (P (a * 5 + c)) + 1 + k))) M a = c) (9 - tn (P (a * 5 + c)))
noncomputable def fgv (P : Nat → Int32) (M a c : Nat) : Int32 := iF (a = c) (-9) (iF (nxt P M a = c) (-9) (fiA (fgq P M a c) (fun k => nI (k + 1)) (-9)))
def dbq (P : Nat → Int32) (i p : Nat) : Nat → Nat → Int32
  | 0 => P
  | k + 1 => upd P i (nI (p + 1 + k))
theorem dbq_upd (P : Nat → Int32) (i p : Nat) (v : Int32) : ∀ k, upd (dbq P i p k) i v = upd P i v
  | 0 => rfl
  | k + 1 => upd_upd P i (nI (p + 1 + k)) v
noncomputable def fgA (P : Nat → Int32) (M a c : Nat) : Nat → Int32 := iF (a = c) P (iF (nxt P M a = c) P (match fgq P M a c with
  | some k => upd P (a * 5 + c) (nI (tn (P (a * 5 + c)) + 1 + k))
  | none => dbq P (a * 5 + c) (tn (P (a * 5 + c))) (9 - tn (P (a * 5 + c)))))
theorem fgA_upd (P : Nat → Int32) (M a c : Nat) (v : Int32) : upd (fgA P M a c) (a * 5 + c) v = upd P (a * 5 + c) v := by
  unfold fgA
  by_cases h1 : a = c
  · rw [iF_t h1]
  · rw [iF_f h1]
    by_cases h2 : nxt P M a = c
    · rw [iF_t h2]
    · rw [iF_f h2]
      cases fgq P M a c with
      | none => exact dbq_upd P _ _ v _
      | some k => exact upd_upd P _ _ v
theorem fgA_back (P : Nat → Int32) (M a c : Nat) : upd (fgA P M a c) (a * 5 + c) (P (a * 5 + c)) = P := by
  rw [fgA_upd]; exact upd_self rfl
theorem hz_fgA {P : Nat → Int32} {M a c : Nat} (hM : M ≤ 5) (ha : a < M) (hc : c < M) (hz : ∀ j, j < M → P (j * 5 + j) = nI 0) : ∀ j, j < M → fgA P M a c (j * 5 + j) = nI 0 := by
  intro j hj
  unfold fgA
  by_cases h1 : a = c
  · rw [iF_t h1]; exact hz j hj
  · rw [iF_f h1]
    by_cases h2 : nxt P M a = c
    · rw [iF_t h2]; exact hz j hj
    · rw [iF_f h2]
      cases fgq P M a c with
      | none =>
        show dbq P _ _ (9 - tn (P (a * 5 + c))) (j * 5 + j) = nI 0
        cases (9 - tn (P (a * 5 + c))) with
        | zero => exact hz j hj
        | succ k => exact hz_upd hM ha hc h1 hz j hj
      | some k => exact hz_upd hM ha hc h1 hz j hj
/-- the pence that the note of place k (who owes k / M, to whom k % M) must be raised, if that brings the boy there -/
noncomputable def thx (P : Nat → Int32) (M u n g k : Nat) : Option Nat := iF (k / M = k % M) none (iF (nxt P M (k / M) = k % M) none (match fgq P M (k / M) (k % M) with
  | none => none
  | some q => iF (wh (upd P (k / M * 5 + k % M) (nI (tn (P (k / M * 5 + k % M)) + 1 + q))) M u n = g) (some (q + 1)) none))
def bst (th : Nat → Option Nat) : Nat → Option (Nat × Nat)
  | 0 => none
  | r + 1 => match th r with
    | none => bst th r
    | some t => match bst th r with
      | none => some (t, r)
      | some (t0, k0) => if t < t0 then some (t, r) else some (t0, k0)
def e1 (o : Option (Nat × Nat)) : Int32 := match o with
  | none => -9
  | some (t, _) => nI t
def e2 (M : Nat) (o : Option (Nat × Nat)) : Int32 := match o with
  | none => -9
  | some (_, k) => nI (k / M)
def e3 (M : Nat) (o : Option (Nat × Nat)) : Int32 := match o with
  | none => -9
  | some (_, k) => nI (k % M)
noncomputable def fgr (P : Nat → Int32) (M u n g : Nat) (w : Int32) : Int32 := iF (wh P M u n = g) (iF (w = 0) (nI 0) (-9)) (iF (w = 0) (e1 (bst (thx P M u n g) (M * M))) (iF (w = 1) (e2 M (bst (thx P M u n g) (M * M))) (e3 M (bst (thx P M u n g) (M * M)))))
noncomputable def s_forge (B M : Nat) (P U : Nat → Int32) (b m n w : Int32) : Int32 := iF (vp_in b B) (iF (vp_in m M) (iF (vp_in n (20 + 1)) (iF (vp_in w (2 + 1)) (fgr P M (tn (U (tn b))) (tn n) (tn m) w) (-2)) (-2)) (-1)) (-1)
def isb (P : Nat → Int32) (M u n g a c t : Nat) : Prop := a ≠ c ∧ tn (P (a * 5 + c)) + t ≤ 9 ∧ wh (upd P (a * 5 + c) (nI (tn (P (a * 5 + c)) + t))) M u n = g
theorem bst_t9 {th : Nat → Option Nat} (h : ∀ k t, th k = some t → t ≤ 9) : ∀ r t k, bst th r = some (t, k) → t ≤ 9
  | 0, _, _, e => by cases e
  | r + 1, t, k, e => by
    have ih := bst_t9 h r
    show t ≤ 9
    change (match th r with | none => bst th r | some t => match bst th r with | none => some (t, r) | some (t0, k0) => if t < t0 then some (t, r) else some (t0, k0)) = some (t, k) at e
    cases hr : th r with
    | none => rw [hr] at e; exact ih t k e
    | some t1 =>
      rw [hr] at e
      cases hb : bst th r with
      | none => rw [hb] at e; cases e; exact h r _ hr
      | some q =>
        obtain ⟨t0, k0⟩ := q
        rw [hb] at e
        dsimp only at e
        by_cases c : t1 < t0
        · rw [if_pos c] at e; cases e; exact h r _ hr
        · rw [if_neg c] at e; cases e; exact ih _ _ hb
