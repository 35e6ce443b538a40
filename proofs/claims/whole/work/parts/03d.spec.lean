/-! ===== sheets: what the calls answer and leave ===== -/
noncomputable def shG {α : Type} (k lane n : Int32) (a b : α) : α := iF (vp_in k 4) (iF (vp_in lane (2 + 1)) (iF (n ≤ nI 60) (iF (n < 0) b a) b) b) b
noncomputable def s_sheet (k lane n : Int32) : Int32 := iF (vp_in k 4) (iF (vp_in lane (2 + 1)) (iF (n ≤ nI 60) (iF (n < 0) ((-10) - nI 4) (nI 1)) (-2)) (-2)) (-1)
noncomputable def f_sheet (k lane n : Int32) : Int32 := iF (vp_in k 4) (iF (vp_in lane (2 + 1)) (iF (n ≤ nI 60) (iF (n < 0) (nI 4) (nI 0)) (nI 0)) (nI 0)) (nI 0)
def zrm (f : Nat → Int32) (k : Nat) : Nat → Nat → Int32
  | 0 => f
  | j + 1 => upd (zrm f k j) (60 * k + j) (nI 0)
noncomputable def s_lose (z ln k : Int32) : Int32 := iF (vp_in k 4) (iF (ln = z) (nI 0) (nI 1)) (-1)
noncomputable def lsG {α : Type} (z ln k : Int32) (a b : α) : α := iF (vp_in k 4) (iF (ln = z) b a) b
noncomputable def s_put (z ln : Int32) (L : Nat) (k i : Int32) : Int32 := iF (vp_in k 4) (iF (ln = z) ((-10) - nI 1) (iF (hc L i (nI 1)) (nI 1) ((-10) - nI 3))) (-1)
noncomputable def f_put (z ln : Int32) (L : Nat) (k i : Int32) : Int32 := iF (vp_in k 4) (iF (ln = z) (nI 1) (iF (hc L i (nI 1)) (nI 0) (nI 3))) (nI 0)
noncomputable def ptG {α : Type} (z ln : Int32) (L : Nat) (k i : Int32) (a b : α) : α := iF (vp_in k 4) (iF (ln = z) b (iF (hc L i (nI 1)) a b)) b
noncomputable def s_cell (fv : Int32) (val : Int64) (k lane : Int32) : Int64 := iF (vp_in k 4) (iF (vp_in lane (2 + 1)) (iF (fv = 0) val (-9223372036854775808)) (-9223372036854775808)) (-9223372036854775808)
noncomputable def f_cell (fv k lane : Int32) : Int32 := iF (vp_in k 4) (iF (vp_in lane (2 + 1)) fv (nI 0)) (nI 0)
noncomputable def s_copy (z ln ln2 : Int32) (L L2 : Nat) (k o i j n : Int32) : Int32 := iF (vp_in k 4) (iF (vp_in o 4) (iF (ln = z) ((-10) - nI 1) (iF (ln2 = z) ((-10) - nI 1) (iF (ln = ln2) (iF (hc L i n ∧ hc L2 j n) n ((-10) - nI 3)) ((-10) - nI 2)))) (-1)) (-1)
noncomputable def f_copy (z ln ln2 : Int32) (L L2 : Nat) (k o i j n : Int32) : Int32 := iF (vp_in k 4) (iF (vp_in o 4) (iF (ln = z) (nI 1) (iF (ln2 = z) (nI 1) (iF (ln = ln2) (iF (hc L i n ∧ hc L2 j n) (nI 0) (nI 3)) (nI 2)))) (nI 0)) (nI 0)
noncomputable def cpG {α : Type} (z ln ln2 : Int32) (L L2 : Nat) (k o i j n : Int32) (a b : α) : α := iF (vp_in k 4) (iF (vp_in o 4) (iF (ln = z) b (iF (ln2 = z) b (iF (ln = ln2) (iF (hc L i n ∧ hc L2 j n) a b) b))) b) b
/-- a walk told by g, n cells of it, of a boy bound to u -/
noncomputable def wkv (P : Nat → Int32) (M u : Nat) (g : Nat → Int32) (n : Nat) : Int32 := iF (fi (fun t => ¬ vp_in (g t) M) n = none) (fiA (fi (fun t => ¬ g t = nI (wh P M u t)) n) nI (-9)) (-1)
noncomputable def s_walk (B M : Nat) (P U : Nat → Int32) (g : Nat → Int32) (fv b k lane n : Int32) : Int32 := iF (vp_in b B) (iF (vp_in k 4) (iF (vp_in lane (2 + 1)) (iF (vp_in n (40 + 1)) (iF (fv = 0) (wkv P M (tn (U (tn b))) g (tn n)) ((-10) - fv)) (-2)) (-2)) (-1)) (-1)
noncomputable def f_walk (B : Nat) (fv b k lane n : Int32) : Int32 := iF (vp_in b B) (iF (vp_in k 4) (iF (vp_in lane (2 + 1)) (iF (vp_in n (40 + 1)) (iF (fv = 0) (nI 0) fv) (nI 0)) (nI 0)) (nI 0)) (nI 0)
theorem hc_of {L : Nat} {i n : Int32} (h : hc L i n) (hL : L ≤ 240) : ∃ a b : Nat, i = nI a ∧ n = nI b ∧ a + b ≤ L := by
  obtain ⟨h1, h2, h3, h4⟩ := h
  obtain ⟨a, ha, rfl⟩ := nI_of h1
  obtain ⟨b, hb, rfl⟩ := nI_of h3
  have ha2 : a ≤ L := by
    rcases Nat.lt_or_ge L a with q | q
    · exact absurd ((nI_ltI (by omega) ha).mpr q) h2
    · exact q
  rw [pk_sub ha2] at h4
  have hb2 : b ≤ L - a := by
    rcases Nat.lt_or_ge (L - a) b with q | q
    · exact absurd ((nI_ltI (by omega) hb).mpr q) h4
    · exact q
  exact ⟨a, b, rfl, rfl, by omega⟩
theorem hc_to {L a b : Nat} (hL : L ≤ 240) (h : a + b ≤ L) : hc L (nI a) (nI b) := by
  refine ⟨nI_pos (by omega), fun q => ?_, nI_pos (by omega), fun q => ?_⟩
  · exact absurd ((nI_ltI (by omega) (by omega)).mp q) (by omega)
  · rw [pk_sub (by omega)] at q
    exact absurd ((nI_ltI (by omega) (by omega)).mp q) (by omega)
theorem hc_1 {L : Nat} {i : Int32} (h : hc L i (nI 1)) (hL : L ≤ 240) : ∃ a : Nat, a < L ∧ i = nI a := by
  obtain ⟨a, b, rfl, e, hab⟩ := hc_of h hL
  have : b = 1 := by
    have h3 := h.2.2.2
    rw [pk_sub (by omega)] at h3
    rcases Nat.lt_or_ge (L - a) 1 with q | q
    · exact absurd ((nI_ltI (by omega) (by omega)).mpr q) h3
    · exact ((nI_eq (by omega) (by omega)).mp e).symm
  exact ⟨a, by omega, rfl⟩
theorem hc1_iff {L : Nat} {i : Int32} (hL : L ≤ 240) : (¬ i < nI 0 ∧ ¬ nI L - nI 1 < i) ↔ hc L i (nI 1) := by
  constructor
  · rintro ⟨h1, h2⟩
    obtain ⟨a, ha, rfl⟩ := nI_of (show ¬ i < 0 from h1)
    rcases Nat.eq_zero_or_pos L with q | q
    · subst q
      exact absurd (show nI 0 - nI 1 < nI a by
        have e : nI 0 - nI 1 = -1 := by decide
        rw [e, Int32.lt_iff_toInt_lt, nI_toInt ha]
        have e2 : (-1 : Int32).toInt = -1 := by decide
        rw [e2]; omega) h2
    · rw [pk_sub q] at h2
      have : a ≤ L - 1 := by
        rcases Nat.lt_or_ge (L - 1) a with r | r
        · exact absurd ((nI_ltI (by omega) ha).mpr r) h2
        · exact r
      exact hc_to hL (by omega)
  · intro h
    obtain ⟨a, ha, rfl⟩ := hc_1 h hL
    refine ⟨nI_pos (by omega), fun q => ?_⟩
    rw [pk_sub (by omega)] at q
    exact absurd ((nI_ltI (by omega) (by omega)).mp q) (by omega)
theorem nz1 : ¬ nI 1 = 0 := by decide
theorem nz2 : ¬ nI 2 = 0 := by decide
theorem nz3 : ¬ nI 3 = 0 := by decide
theorem nz4 : ¬ nI 4 = 0 := by decide
theorem nn1 : ¬ nI 1 < 0 := by decide
theorem ze0 : nI 0 = 0 := rfl
theorem ft_hc {z ln : Int32} {L : Nat} {q i n : Int32} (h : ft z ln L q i n = 0) : ¬ ln = z ∧ ln = q ∧ hc L i n := by
  unfold ft at h
  by_cases h1 : ln = z
  · rw [iF_t h1] at h; exact absurd h nz1
  · rw [iF_f h1] at h
    by_cases h2 : ln = q
    · rw [iF_t h2] at h
      by_cases h3 : n < 0
      · rw [iF_t h3] at h; exact absurd h nz4
      · rw [iF_f h3] at h
        by_cases h4 : hc L i n
        · exact ⟨h1, h2, h4⟩
        · rw [iF_f h4] at h; exact absurd h nz3
    · rw [iF_f h2] at h; exact absurd h nz2
/-- the model's copy, down and up -/
theorem cp_up {f : Nat → Int32} {s d q : Nat} (h : d ≤ s ∨ s + q < d) : upd (va_cpy f f s d q) (d + q) (va_cpy f f s d q (s + q)) = va_cpy f f s d (q + 1) := by
  have e : va_cpy f f s d q (s + q) = f (s + q) := by
    unfold va_cpy
    rw [if_neg (by omega)]
  rw [e]
  funext k
  unfold upd va_cpy
  by_cases h1 : k = d + q
  · subst h1
    rw [if_pos rfl, if_pos (by omega)]
    congr 1; omega
  · rw [if_neg h1]
    by_cases h2 : d ≤ k ∧ k < d + q
    · rw [if_pos h2, if_pos (by omega)]
    · rw [if_neg h2, if_neg (by omega)]
theorem cp_dn {f : Nat → Int32} {s d n q : Nat} (hq : q < n) (h : s ≤ d ∨ d + n ≤ s) : upd (va_cpy f f (s + (n - q)) (d + (n - q)) q) (d + (n - 1 - q)) (va_cpy f f (s + (n - q)) (d + (n - q)) q (s + (n - 1 - q))) = va_cpy f f (s + (n - (q + 1))) (d + (n - (q + 1))) (q + 1) := by
  have e : va_cpy f f (s + (n - q)) (d + (n - q)) q (s + (n - 1 - q)) = f (s + (n - 1 - q)) := by
    unfold va_cpy
    rw [if_neg (by omega)]
  rw [e]
  funext k
  unfold upd va_cpy
  by_cases h1 : k = d + (n - 1 - q)
  · subst h1
    rw [if_pos rfl, if_pos (by omega)]
    congr 1; omega
  · rw [if_neg h1]
    by_cases h2 : d + (n - q) ≤ k ∧ k < d + (n - q) + q
    · rw [if_pos h2, if_pos (by omega)]
      congr 1; omega
    · rw [if_neg h2, if_neg (by omega)]
theorem cp_0 {f : Nat → Int32} {s d : Nat} : va_cpy f f s d 0 = f := by
  funext k
  unfold va_cpy
  rw [if_neg (by omega)]
