/-! ===== an array's picture is its places alone ===== -/
theorem aI_at {D : va_G} {cl : List vw_C} {G : Gl} {n a : Nat} {f g : Nat → Int32} {H : Heap} (h : ∀ j, j < n → f j = g j) (hc : va_at D cl (a, aI G n f) H) : va_at D cl (a, aI G n g) H := by
  have e : arrV G.2.1 n (fun j => .int (f j)) = arrV G.2.1 n (fun j => .int (g j)) := by
    unfold arrV
    have e2 : (fun j : Fin n => Value.int (f j.val)) = (fun j : Fin n => Value.int (g j.val)) := by
      funext j
      rw [h j.val j.isLt]
    rw [e2]
  have hc2 : H[a]? = some (arrV G.2.1 n (fun j => .int (f j))) := hc
  show H[a]? = some (arrV G.2.1 n (fun j => .int (g j)))
  rw [← e]
  exact hc2
theorem P_arr {D : va_G} {cl : List vw_C} {G : Gl} {W : va_W} {H : Heap} (hP : va_P D cl W H) (q0 : Nat) {n a : Nat} {f : Nat → Int32} (g : Nat → Int32) (ha : W[q0]? = some (a, aI G n f)) (h : ∀ j, j < n → f j = g j) : va_P D cl (W.set q0 (a, aI G n g)) H := by
  intro k q hk
  by_cases e : k = q0
  · subst e
    have hlt : k < (W.set k (a, aI G n g)).length := (List.getElem?_eq_some_iff.mp hk).1
    rw [List.length_set] at hlt
    rw [List.getElem?_set_self hlt] at hk
    cases hk
    exact aI_at h (hP k _ ha)
  · rw [List.getElem?_set_ne (Ne.symm e)] at hk
    exact hP k q hk
theorem cpy0 {f g : Nat → Int32} {n : Nat} : ∀ j, j < n → va_cpy f g 0 0 n j = f j := fun j h => by
  unfold va_cpy
  rw [if_pos (by omega)]
  congr 1; omega
/-! ===== readings ===== -/
noncomputable def s_noted (R : Nat) : Int32 := iF (R < 8) (nI R) (-4)
noncomputable def rdG {α : Type} (B M R : Nat) (b n m : Int32) (a z : α) : α := iF (vp_in b B) (iF (vp_in m M) (iF (vp_in n (20 + 1)) (iF (R < 8) a z) z) z) z
noncomputable def s_read (B M R : Nat) (b n m : Int32) : Int32 := iF (vp_in b B) (iF (vp_in m M) (iF (vp_in n (20 + 1)) (s_noted R) (-2)) (-1)) (-1)
noncomputable def exG {α : Type} (B M R : Nat) (b n m v : Int32) (a z : α) : α := iF (vp_in b B) (iF (vp_in m M) (iF (vp_in n (20 + 1)) (iF (vp_in v (40 + 1)) (iF (R < 8) a z) z) z) z) z
noncomputable def s_exam (B M R : Nat) (b n m v : Int32) : Int32 := iF (vp_in b B) (iF (vp_in m M) (iF (vp_in n (20 + 1)) (iF (vp_in v (40 + 1)) (s_noted R) (-2)) (-2)) (-1)) (-1)
noncomputable def s_back (R : Nat) (k : Int32) : Int32 := iF (vp_in k (R + 1)) (nI (R - tn k)) (-2)
noncomputable def r_back (R : Nat) (k : Int32) : Nat := iF (vp_in k (R + 1)) (R - tn k) R
/-- all readings are so -/
def alls (z : Int32) (P : Nat → Int32) (M : Nat) (K U W1 N1 M1 K1 : Nat → Int32) (R : Nat) : Prop := fi (fun q => ¬ isS z P M K U (tn (W1 q)) (tn (N1 q)) (tn (M1 q)) (K1 q)) R = none
def dbp (P : Nat → Int32) (i : Nat) : Nat → Nat → Int32
  | 0 => P
  | k + 1 => upd P i (nI k)
theorem upd_upd (f : Nat → Int32) (i : Nat) (x y : Int32) : upd (upd f i x) i y = upd f i y := by
  funext j
  unfold upd
  by_cases h : j = i
  · rw [if_pos h, if_pos h]
  · rw [if_neg h, if_neg h, if_neg h]
theorem upd_self {f : Nat → Int32} {i : Nat} {x : Int32} (h : f i = x) : upd f i x = f := by
  funext j
  unfold upd
  by_cases e : j = i
  · rw [if_pos e, e, h]
  · rw [if_neg e]
theorem dbp_upd (P : Nat → Int32) (i : Nat) (v : Int32) : ∀ k, upd (dbp P i k) i v = upd P i v
  | 0 => rfl
  | k + 1 => upd_upd P i (nI k) v
theorem dbp_end (P : Nat → Int32) (i k : Nat) : upd (dbp P i k) i (P i) = P := by
  rw [dbp_upd]
  exact upd_self rfl
/-- the set of the numbers below k that, in place of what stands at i of F, leave all readings so -/
noncomputable def setS (p : Nat → Prop) : Nat → Int32
  | 0 => nI 0
  | k + 1 => setS p k ||| iF (p k) (nI 1 <<< (nI k &&& 31)) (nI 0)
theorem setS_congr {p q : Nat → Prop} : ∀ {N : Nat}, (∀ k, k < N → (p k ↔ q k)) → setS p N = setS q N
  | 0, _ => rfl
  | N + 1, h => by
    show setS p N ||| iF (p N) _ _ = setS q N ||| iF (q N) _ _
    rw [setS_congr (fun k hk => h k (by omega)), propext (h N (by omega))]
noncomputable def s_debts (z : Int32) (M : Nat) (P K U W1 N1 M1 K1 : Nat → Int32) (R : Nat) (a b : Int32) : Int32 := iF (hd M a b) (setS (fun v => alls z (upd P (tn a * 5 + tn b) (nI v)) M K U W1 N1 M1 K1 R) 10) (-1)
noncomputable def s_bound (z : Int32) (B M : Nat) (P K U W1 N1 M1 K1 : Nat → Int32) (R : Nat) (b : Int32) : Int32 := iF (vp_in b B) (setS (fun v => alls z P M K (upd U (tn b) (nI v)) W1 N1 M1 K1 R) M) (-1)
noncomputable def s_kinds (z : Int32) (B M : Nat) (P K U W1 N1 M1 K1 : Nat → Int32) (R : Nat) (b : Int32) : Int32 := iF (vp_in b B) (setS (fun v => alls z P M (upd K (tn b) (nI v)) U W1 N1 M1 K1 R) 3) (-1)
theorem hz_upd {P : Nat → Int32} {M a b : Nat} {v : Int32} (hM : M ≤ 5) (ha : a < M) (hb : b < M) (hab : a ≠ b) (hz : ∀ j, j < M → P (j * 5 + j) = nI 0) : ∀ j, j < M → upd P (a * 5 + b) v (j * 5 + j) = nI 0 := fun j hj => by
  unfold upd
  rw [if_neg (by omega)]
  exact hz j hj
theorem hU_upd {U : Nat → Int32} {M B b k : Nat} (hM : M ≤ 5) (hk : k < M) (hU : ∀ b, b < B → vp_in (U b) M) : ∀ c, c < B → vp_in (upd U b (nI k) c) M := fun c hc => by
  unfold upd
  by_cases e : c = b
  · rw [if_pos e]; exact vp_in_nI hk (by omega)
  · rw [if_neg e]; exact hU c hc
theorem hK_upd {K : Nat → Int32} {B b k : Nat} (hk : k < 3) (hK : ∀ b, b < B → kd (K b)) : ∀ c, c < B → kd (upd K b (nI k) c) := fun c hc => by
  unfold upd
  by_cases e : c = b
  · rw [if_pos e]
    rcases (show k = 0 ∨ k = 1 ∨ k = 2 by omega) with rfl | rfl | rfl
    · exact Or.inl rfl
    · exact Or.inr (Or.inl rfl)
    · exact Or.inr (Or.inr rfl)
  · rw [if_neg e]; exact hK c hc
