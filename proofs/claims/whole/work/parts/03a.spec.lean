/-! ===== what the answers are: the town, by plain functions ===== -/
/-- the best of the first k masters, seen from m -/
noncomputable def nx (P : Nat → Int32) (m : Nat) : Nat → Nat
  | 0 => m
  | k + 1 => iF (P (m * 5 + nx P m k) < P (m * 5 + k)) k (nx P m k)
noncomputable def nxt (P : Nat → Int32) (M m : Nat) : Nat := nx P m M
noncomputable def wh (P : Nat → Int32) (M m : Nat) : Nat → Nat
  | 0 => m
  | n + 1 => nxt P M (wh P M m n)
/-- what a boy knows of the trade tr behind n solstices, learning L in half a year, bound to m -/
noncomputable def kn (P : Nat → Int32) (M tr : Nat) (L : Int32) (m : Nat) : Nat → Int32
  | 0 => nI 0
  | n + 1 => iF (wh P M m n = tr) ((kn P M tr L m n - kn P M tr L m n / nI 3) + L) (kn P M tr L m n - kn P M tr L m n / nI 3)
noncomputable def mt (P : Nat → Int32) (M m : Nat) : Nat → Int32
  | 0 => nI 0
  | k + 1 => mt P M m k ||| (nI 1 <<< (nI (wh P M m k) &&& 31))
noncomputable def lrn (k : Int32) : Int32 := iF (k = 1) (nI 12) (iF (k = 2) (nI 4) (nI 9))
theorem iF_either {α : Type} {P : Prop} {a b : α} : iF P a b = a ∨ iF P a b = b := by
  by_cases h : P
  · exact Or.inl (iF_t h)
  · exact Or.inr (iF_f h)
theorem nx_lt {P : Nat → Int32} {m M : Nat} (hm : m < M) : ∀ k, k ≤ M → nx P m k < M
  | 0, _ => hm
  | k + 1, h => by
    have ih := nx_lt (P := P) hm k (by omega)
    rcases iF_either (P := P (m * 5 + nx P m k) < P (m * 5 + k)) (a := k) (b := nx P m k) with e | e
    · show iF _ _ _ < M
      rw [e]; omega
    · show iF _ _ _ < M
      rw [e]; exact ih
theorem nxt_lt {P : Nat → Int32} {m M : Nat} (hm : m < M) : nxt P M m < M := nx_lt hm M (Nat.le_refl M)
theorem wh_lt {P : Nat → Int32} {m M : Nat} (hm : m < M) : ∀ n, wh P M m n < M
  | 0 => hm
  | n + 1 => nxt_lt (wh_lt hm n)
theorem wh_add {P : Nat → Int32} {m M : Nat} : ∀ n, wh P M (nxt P M m) n = wh P M m (n + 1)
  | 0 => rfl
  | n + 1 => congrArg (nxt P M) (wh_add n)
def tn (x : Int32) : Nat := x.toNatClampNeg
theorem tn_of {x : Int32} {M : Nat} (h : vp_in x M) (hM : M < 2 ^ 31) : x = nI (tn x) := by
  obtain ⟨j, hj, rfl⟩ := vp_in_of h hM
  unfold tn
  rw [nI_clamp (by omega)]
theorem tn_lt {x : Int32} {M : Nat} (h : vp_in x M) (hM : M < 2 ^ 31) : tn x < M := by
  obtain ⟨j, hj, rfl⟩ := vp_in_of h hM
  unfold tn
  rw [nI_clamp (by omega)]
  exact hj
theorem tn_nI {n : Nat} (h : n < 2 ^ 31) : tn (nI n) = n := nI_clamp h
