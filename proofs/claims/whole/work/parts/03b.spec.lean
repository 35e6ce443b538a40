/-! ===== what the answers are: searches, readings, sheets, the public calls ===== -/
/-- the first of 0 .. k-1 with p -/
noncomputable def fi (p : Nat → Prop) : Nat → Option Nat
  | 0 => none
  | k + 1 => match fi p k with
    | some j => some j
    | none => iF (p k) (some k) none
def fiA (o : Option Nat) (f : Nat → Int32) (z : Int32) : Int32 := match o with
  | none => z
  | some k => f k
theorem fi_miss {p : Nat → Prop} {k : Nat} (h : fi p k = none) (hp : ¬ p k) : fi p (k + 1) = none := by
  show (match fi p k with | some j => some j | none => iF (p k) (some k) none) = none
  rw [h]
  exact iF_f hp
theorem fi_keep {p : Nat → Prop} {k j : Nat} (h : fi p k = some j) : ∀ d, fi p (k + d) = some j
  | 0 => h
  | d + 1 => by
    show (match fi p (k + d) with | some j => some j | none => iF (p (k + d)) (some (k + d)) none) = some j
    rw [fi_keep h d]
theorem fi_hit {p : Nat → Prop} {k N : Nat} (h : fi p k = none) (hp : p k) (hk : k < N) : fi p N = some k := by
  have h1 : fi p (k + 1) = some k := by
    show (match fi p k with | some j => some j | none => iF (p k) (some k) none) = some k
    rw [h]
    exact iF_t hp
  have := fi_keep h1 (N - (k + 1))
  rwa [show k + 1 + (N - (k + 1)) = N by omega] at this
theorem fi_none {p : Nat → Prop} : ∀ {N : Nat}, fi p N = none ↔ ∀ k, k < N → ¬ p k
  | 0 => ⟨fun _ k h => absurd h (Nat.not_lt_zero k), fun _ => rfl⟩
  | N + 1 => by
    constructor
    · intro h k hk
      cases hf : fi p N with
      | some j => rw [fi_keep hf 1] at h; cases h
      | none =>
        rcases Nat.lt_or_ge k N with q | q
        · exact fi_none.mp hf k q
        · have e : k = N := by omega
          subst e
          intro hp
          rw [fi_hit hf hp (Nat.lt_succ_self _)] at h
          cases h
    · intro h
      exact fi_miss (fi_none.mpr (fun k hk => h k (by omega))) (h N (by omega))
theorem fi_some {p : Nat → Prop} {N k : Nat} : fi p N = some k ↔ k < N ∧ p k ∧ ∀ j, j < k → ¬ p j := by
  constructor
  · intro h
    have hk : ¬ ∀ j, j < N → ¬ p j := fun q => by rw [fi_none.mpr q] at h; cases h
    obtain ⟨n, hn⟩ : ∃ n, n < N ∧ p n := by
      refine Classical.byContradiction fun q => hk (fun j hj hp => q ⟨j, hj, hp⟩)
    obtain ⟨i, hi, hm⟩ := pk_least (fun n => n < N ∧ p n) ⟨n, hn⟩
    have hnone : fi p i = none := fi_none.mpr (fun j hj hp => hm j hj ⟨by omega, hp⟩)
    rw [fi_hit hnone hi.2 hi.1] at h
    cases h
    exact ⟨hi.1, hi.2, fun j hj hp => hm j hj ⟨by omega, hp⟩⟩
  · rintro ⟨h1, h2, h3⟩
    exact fi_hit (fi_none.mpr h3) h2 h1
theorem fi_congr {p q : Nat → Prop} {N : Nat} (h : ∀ k, k < N → (p k ↔ q k)) : fi p N = fi q N := by
  cases hp : fi p N with
  | none => exact (fi_none.mpr (fun k hk hq => fi_none.mp hp k hk ((h k hk).mpr hq))).symm
  | some k =>
    obtain ⟨h1, h2, h3⟩ := fi_some.mp hp
    exact (fi_some.mpr ⟨h1, (h k h1).mp h2, fun j hj hq => h3 j hj ((h j (by omega)).mpr hq)⟩).symm
/-- a reading is so; z stands for what was known in a reading that says with whom he was -/
def isS (z : Int32) (P : Nat → Int32) (M : Nat) (K U : Nat → Int32) (w t r : Nat) (kw : Int32) : Prop := (kw = z ∧ wh P M (tn (U w)) t = r) ∨ (¬ kw = z ∧ kn P M r (lrn (K w)) (tn (U w)) t = kw)
abbrev hd (M : Nat) (a b : Int32) : Prop := vp_in a M ∧ vp_in b M ∧ a ≠ b
def hc (L : Nat) (i n : Int32) : Prop := ¬ i < 0 ∧ ¬ nI L < i ∧ ¬ n < 0 ∧ ¬ nI L - i < n
noncomputable def ft (z ln : Int32) (L : Nat) (as i n : Int32) : Int32 := iF (ln = z) (nI 1) (iF (ln = as) (iF (n < 0) (nI 4) (iF (hc L i n) (nI 0) (nI 3))) (nI 2))
noncomputable def ctl (ln v : Int32) : Int32 := iF (ln = 0) v.toInt8.toInt32 (iF (ln = 1) v.toInt16.toInt32 v)
def zr (f : Nat → Int32) : Nat → Nat → Int32
  | 0 => f
  | k + 1 => upd (zr f k) k (nI 0)
noncomputable def ab (P : Nat → Int32) (M : Nat) (K U : Nat → Int32) (n : Nat) : Nat → Int32
  | 0 => nI 0
  | b + 1 => iF (nI 9 ≤ kn P M (wh P M (tn (U b)) n) (lrn (K b)) (tn (U b)) n) (ab P M K U n b ||| (nI 1 <<< (nI (wh P M (tn (U b)) n) &&& 31))) (ab P M K U n b)
noncomputable def s_ofBoy (B : Nat) (K U : Nat → Int32) (b w : Int32) : Int32 := iF (vp_in b B) (iF (w = 0) (K (tn b)) (iF (w = 1) (U (tn b)) (iF (w = 2) (lrn (K (tn b))) (-2)))) (-1)
noncomputable def s_owes (M : Nat) (P : Nat → Int32) (a b : Int32) : Int32 := iF (vp_in a M) (iF (vp_in b M) (P (tn a * 5 + tn b)) (-1)) (-1)
noncomputable def s_owe (M : Nat) (P : Nat → Int32) (a b v : Int32) : Int32 := iF (hd M a b) (iF (vp_in v (9 + 1)) (P (tn a * 5 + tn b)) (-2)) (-1)
noncomputable def w_owe (M : Nat) (P : Nat → Int32) (a b v : Int32) : Nat → Int32 := iF (hd M a b) (iF (vp_in v (9 + 1)) (upd P (tn a * 5 + tn b) v) P) P
noncomputable def s_bind (B M : Nat) (U : Nat → Int32) (b m : Int32) : Int32 := iF (vp_in b B) (iF (vp_in m M) (U (tn b)) (-1)) (-1)
noncomputable def w_bind (B M : Nat) (U : Nat → Int32) (b m : Int32) : Nat → Int32 := iF (vp_in b B) (iF (vp_in m M) (upd U (tn b) m) U) U
noncomputable def s_next (M : Nat) (P : Nat → Int32) (m : Int32) : Int32 := iF (vp_in m M) (nI (nxt P M (tn m))) (-1)
noncomputable def s_where (B M : Nat) (P U : Nat → Int32) (b n : Int32) : Int32 := iF (vp_in b B) (iF (vp_in n (60 + 1)) (nI (wh P M (tn (U (tn b))) (tn n))) (-2)) (-1)
noncomputable def s_knows (B M : Nat) (P K U : Nat → Int32) (b m n : Int32) : Int32 := iF (vp_in b B) (iF (vp_in m M) (iF (vp_in n (60 + 1)) (kn P M (tn m) (lrn (K (tn b))) (tn (U (tn b))) (tn n)) (-2)) (-1)) (-1)
noncomputable def s_able (B M : Nat) (P K U : Nat → Int32) (n : Int32) : Int32 := iF (vp_in n (60 + 1)) (iF (M = 0) (-3) (ab P M K U (tn n) B)) (-2)
noncomputable def s_ring (M : Nat) (P : Nat → Int32) (m : Int32) : Int32 := iF (vp_in m M) (mt P M (wh P M (tn m) M) M) (-1)
noncomputable def hmf (P : Nat → Int32) (M u : Nat) : Int32 := fiA (fi (fun k => wh P M u (k + 1) = u) M) (fun k => nI (k + 1)) (-9)
noncomputable def s_home (B M : Nat) (P U : Nat → Int32) (b : Int32) : Int32 := iF (vp_in b B) (hmf P M (tn (U (tn b)))) (-1)
noncomputable def s_never (B M : Nat) (P U : Nat → Int32) (b : Int32) : Int32 := iF (vp_in b B) ((nI 1 <<< (nI M &&& 31) - nI 1) &&& (mt P M (tn (U (tn b))) M ^^^ (-1))) (-1)
noncomputable def s_many (B M R : Nat) (w : Int32) : Int32 := iF (w = 0) (nI B) (iF (w = 1) (nI M) (iF (w = 2) (nI R) (-2)))
noncomputable def tel (k : Int32) (u : Int32) : Int32 := iF (k = 1) (u + nI 100) (iF (k = 2) ((u + nI 100) + u) u)
def lt1 (tc v : Int32) : Int32 := nI 31 * tc + v
noncomputable def trc (k : Int32) (tc : Int32) : Int32 := iF (k = 1) (lt1 (lt1 tc (nI 2)) (nI 1)) (iF (k = 2) (lt1 (lt1 (lt1 (lt1 tc (nI 3)) (nI 2)) (nI 1)) (nI 1)) (lt1 tc (nI 1)))
noncomputable def s_tell (B : Nat) (K U : Nat → Int32) (b : Int32) : Int32 := iF (vp_in b B) (tel (K (tn b)) (U (tn b))) (-1)
noncomputable def t_tell (B : Nat) (K : Nat → Int32) (tc b : Int32) : Int32 := iF (vp_in b B) (trc (K (tn b)) tc) tc
noncomputable def s_call (B : Nat) (K : Nat → Int32) (b : Int32) : Int32 := iF (vp_in b B) (iF (K (tn b) = nI 2) (nI 20) b) (-1)
noncomputable def t_call (B : Nat) (K : Nat → Int32) (tc b : Int32) : Int32 := iF (vp_in b B) (iF (K (tn b) = nI 2) (lt1 tc (nI 5)) (lt1 tc (nI 4))) tc
noncomputable def s_as (B : Nat) (K : Nat → Int32) (b k : Int32) : Int32 := iF (vp_in b B) (iF (vp_in k (2 + 1)) (iF (k ≤ K (tn b)) (nI 1) ((-10) - nI 2)) (-2)) (-1)
noncomputable def f_as (B : Nat) (K : Nat → Int32) (b k : Int32) : Int32 := iF (vp_in b B) (iF (vp_in k (2 + 1)) (iF (k ≤ K (tn b)) (nI 0) (nI 2)) (nI 0)) (nI 0)
