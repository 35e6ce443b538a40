/-! ===== small laws that the model's walk wants ===== -/
def kd (x : Int32) : Prop := x = nI 0 ∨ x = nI 1 ∨ x = nI 2
theorem lrn_0 {x : Int32} (h : x = 0) : nI 9 = lrn x := by
  subst h
  unfold lrn
  rw [iF_f (by decide), iF_f (by decide)]
theorem lrn_1 {x : Int32} (h : x = nI 1) : nI 12 = lrn x := by
  subst h
  unfold lrn
  rw [iF_t (by decide)]
theorem lrn_2 {x : Int32} (hk : kd x) (h0 : ¬ x = 0) (h1 : ¬ x = nI 1) : nI 4 = lrn x := by
  rcases hk with rfl | rfl | rfl
  · exact absurd rfl h0
  · exact absurd rfl h1
  · unfold lrn
    rw [iF_f (by decide), iF_t (by decide)]
theorem or0 (x : Int32) : x ||| nI 0 = x := by
  show x ||| 0 = x
  exact Int32.or_zero
theorem add0 (x : Int32) : x + nI 0 = x := by
  show x + 0 = x
  exact Int32.add_zero x
theorem tw_eq (u : Int32) : nI 2 * u + nI 100 = (u + nI 100) + u := by
  have e : nI 2 = 1 + 1 := by decide
  rw [e, Int32.add_mul, Int32.one_mul, Int32.add_assoc, Int32.add_assoc, Int32.add_comm u (nI 100)]
def bt (x : Int32) (i : Nat) : Bool := x.toBitVec.getLsbD i
theorem b_ext {x y : Int32} (h : ∀ i, i < 32 → bt x i = bt y i) : x = y := Int32.toBitVec_inj.mp (BitVec.eq_of_getLsbD_eq (fun i hi => h i hi))
theorem b_or (x y : Int32) (i : Nat) : bt (x ||| y) i = (bt x i || bt y i) := by unfold bt; rw [Int32.toBitVec_or, BitVec.getLsbD_or]
theorem b_and (x y : Int32) (i : Nat) : bt (x &&& y) i = (bt x i && bt y i) := by unfold bt; rw [Int32.toBitVec_and, BitVec.getLsbD_and]
theorem b_xor (x y : Int32) (i : Nat) : bt (x ^^^ y) i = (bt x i ^^ bt y i) := by unfold bt; rw [Int32.toBitVec_xor, BitVec.getLsbD_xor]
theorem b_big {x : Int32} {i : Nat} (h : 32 ≤ i) : bt x i = false := BitVec.getLsbD_of_ge _ _ h
theorem b_255 (i : Nat) : bt 255 i = decide (i < 8) := by
  rcases Nat.lt_or_ge i 32 with h | h
  · exact (by decide +kernel : ∀ i, i < 32 → bt 255 i = decide (i < 8)) i h
  · rw [b_big h, decide_eq_false (by omega)]
theorem b_65535 (i : Nat) : bt 65535 i = decide (i < 16) := by
  rcases Nat.lt_or_ge i 32 with h | h
  · exact (by decide +kernel : ∀ i, i < 32 → bt 65535 i = decide (i < 16)) i h
  · rw [b_big h, decide_eq_false (by omega)]
theorem b_m1 : ∀ i, i < 32 → bt (-1) i = true := by decide +kernel
theorem b_0 (i : Nat) : bt 0 i = false := BitVec.getLsbD_zero
theorem s_l : ∀ n, n < 32 → ((nI n &&& 31).toBitVec.smod 32).toNat = n := by decide +kernel
theorem s_u : ∀ n, n < 32 → (((nI n).toUInt32 &&& Int32.toUInt32 31).toBitVec % 32).toNat = n := by decide +kernel
theorem b_shl (n : Nat) (hn : n < 32) (x : Int32) {i : Nat} (hi : i < 32) : bt (x <<< (nI n &&& 31)) i = (decide (n ≤ i) && bt x (i - n)) := by
  unfold bt
  rw [Int32.toBitVec_shiftLeft]
  show (x.toBitVec <<< ((nI n &&& 31).toBitVec.smod 32).toNat).getLsbD i = _
  rw [s_l n hn, BitVec.getLsbD_shiftLeft]
  rcases Nat.lt_or_ge i n with h | h
  · simp [h, Nat.not_le.mpr h]
  · simp [hi, h, Nat.not_lt.mpr h]
theorem b_ushr (n : Nat) (hn : n < 32) (x : Int32) (i : Nat) : bt ((x.toUInt32 >>> ((nI n).toUInt32 &&& Int32.toUInt32 31)).toInt32) i = bt x (n + i) := by
  show (x.toUInt32 >>> ((nI n).toUInt32 &&& Int32.toUInt32 31)).toBitVec.getLsbD i = x.toUInt32.toBitVec.getLsbD (n + i)
  rw [UInt32.toBitVec_shiftRight]
  show (x.toUInt32.toBitVec >>> (((nI n).toUInt32 &&& Int32.toUInt32 31).toBitVec % 32).toNat).getLsbD i = _
  rw [s_u n hn, BitVec.getLsbD_ushiftRight]
theorem b_sshr (n : Nat) (hn : n < 32) (x : Int32) {i : Nat} (hi : i < 32) : bt (x >>> (nI n &&& 31)) i = if n + i < 32 then bt x (n + i) else bt x 31 := by
  unfold bt
  rw [Int32.toBitVec_shiftRight]
  show (x.toBitVec.sshiftRight ((nI n &&& 31).toBitVec.smod 32).toNat).getLsbD i = _
  rw [s_l n hn, BitVec.getLsbD_sshiftRight, BitVec.msb_eq_getLsbD_last]
  simp [hi]
theorem fb_holes : ∀ (m n : Nat) (f : Nat → Nat), (∀ i, i < n → f i < m) → (∀ i j, i < j → j < n → f i ≠ f j) → n ≤ m := by
  intro m
  induction m with
  | zero =>
    intro n f h1 _
    rcases Nat.eq_zero_or_pos n with h | h
    · omega
    · exact absurd (h1 0 h) (Nat.not_lt_zero _)
  | succ m ih =>
    intro n f h1 h2
    by_cases hx : ∃ i, i < n ∧ f i = m
    · obtain ⟨a, ha, hfa⟩ := hx
      have hg := ih (n - 1) (fun i => if i < a then f i else f (i + 1)) (by
        intro i hi
        by_cases q : i < a
        · simp only [if_pos q]
          have b1 := h1 i (by omega)
          have b2 := h2 i a q ha
          omega
        · simp only [if_neg q]
          have b1 := h1 (i + 1) (by omega)
          have b2 := h2 a (i + 1) (by omega) (by omega)
          omega) (by
        intro i j hij hj
        by_cases q : i < a
        · by_cases r : j < a
          · simp only [if_pos q, if_pos r]
            exact h2 i j hij (by omega)
          · simp only [if_pos q, if_neg r]
            exact h2 i (j + 1) (by omega) (by omega)
        · have r : ¬ j < a := by omega
          simp only [if_neg q, if_neg r]
          exact h2 (i + 1) (j + 1) (by omega) (by omega))
      omega
    · have hg := ih n f (fun i hi => by
        have b1 := h1 i hi
        have b2 : f i ≠ m := fun e => hx ⟨i, hi, e⟩
        omega) h2
      omega
/-! the ring's while -/
noncomputable def rgb (P : Nat → Int32) (M v i : Nat) : Int32 := (mt P M v i >>> (nI (wh P M v i) &&& 31)) &&& nI 1
theorem bt_one (a : Nat) (ha : a < 32) {i : Nat} (hi : i < 32) : bt (nI 1 <<< (nI a &&& 31)) i = decide (i = a) := by
  rw [b_shl a ha (nI 1) hi]
  have h1 : ∀ k, k < 32 → bt (nI 1) k = decide (k = 0) := by decide +kernel
  rw [h1 (i - a) (by omega)]
  by_cases h : i = a
  · subst h; simp
  · rcases Nat.lt_or_ge i a with q | q
    · simp [Nat.not_le.mpr q, h]
    · have : ¬ i - a = 0 := by omega
      simp [this, h]
theorem mt_bit {P : Nat → Int32} {M v : Nat} (hM : M ≤ 5) (hv : v < M) {a : Nat} (ha : a < 32) : ∀ j, bt (mt P M v j) a = true ↔ ∃ i, i < j ∧ wh P M v i = a
  | 0 => by
    show bt 0 a = true ↔ _
    rw [b_0]
    exact ⟨fun h => (by cases h), fun ⟨i, h, _⟩ => absurd h (Nat.not_lt_zero i)⟩
  | j + 1 => by
    have ih := mt_bit (P := P) hM hv ha j
    show bt (mt P M v j ||| (nI 1 <<< (nI (wh P M v j) &&& 31))) a = true ↔ _
    have hw := wh_lt (P := P) hv j
    rw [b_or, bt_one _ (by omega) ha, Bool.or_eq_true, ih, decide_eq_true_eq]
    constructor
    · rintro (⟨i, h1, h2⟩ | h)
      · exact ⟨i, by omega, h2⟩
      · exact ⟨j, by omega, h.symm⟩
    · rintro ⟨i, h1, h2⟩
      rcases Nat.lt_or_ge i j with q | q
      · exact Or.inl ⟨i, q, h2⟩
      · have e : i = j := by omega
        subst e
        exact Or.inr h2.symm
theorem rgb_bit {P : Nat → Int32} {M v i : Nat} (hM : M ≤ 5) (hv : v < M) : rgb P M v i = 0 ↔ ¬ ∃ k, k < i ∧ wh P M v k = wh P M v i := by
  have hw := wh_lt (P := P) hv i
  rw [← mt_bit (P := P) hM hv (show wh P M v i < 32 by omega) i]
  have e : bt (rgb P M v i) 0 = bt (mt P M v i) (wh P M v i) := by
    unfold rgb
    rw [b_and, b_sshr _ (by omega) _ (by omega), if_pos (by omega), Nat.add_zero]
    rw [show bt (nI 1) 0 = true by decide +kernel, Bool.and_true]
  constructor
  · intro h
    rw [h, b_0] at e
    rw [← e]
    simp
  · intro h
    apply b_ext
    intro k hk
    rw [b_0]
    rcases Nat.eq_zero_or_pos k with q | q
    · subst q
      rw [e]
      simpa using h
    · unfold rgb
      rw [b_and]
      have h1 : ∀ k, k < 32 → 0 < k → bt (nI 1) k = false := by decide +kernel
      rw [h1 k hk q, Bool.and_false]
theorem rg_inj {P : Nat → Int32} {M v j : Nat} (hM : M ≤ 5) (hv : v < M) (hr : ∀ i, i < j → rgb P M v i = 0) : ∀ a b, a < b → b < j → wh P M v a ≠ wh P M v b := fun a b hab hb e => (rgb_bit hM hv).mp (hr b hb) ⟨a, hab, e⟩
theorem rg_lt {P : Nat → Int32} {M v j : Nat} (hM : M ≤ 5) (hv : v < M) (hj : j ≤ M) (hr : ∀ i, i < j → rgb P M v i = 0) (h : rgb P M v j = 0) : j < M := by
  have hr2 : ∀ i, i < j + 1 → rgb P M v i = 0 := fun i hi => by
    rcases Nat.lt_or_ge i j with q | q
    · exact hr i q
    · have e : i = j := by omega
      rw [e]; exact h
  have := fb_holes M (j + 1) (wh P M v) (fun i _ => wh_lt hv i) (rg_inj hM hv hr2)
  omega
theorem wh_shift {P : Nat → Int32} {M v a b : Nat} (h : wh P M v a = wh P M v b) : ∀ d, wh P M v (a + d) = wh P M v (b + d)
  | 0 => h
  | d + 1 => congrArg (nxt P M) (wh_shift h d)
theorem rg_end {P : Nat → Int32} {M v j : Nat} (hM : M ≤ 5) (hv : v < M) (hj : j ≤ M) (hr : ∀ i, i < j → rgb P M v i = 0) (h : ¬ rgb P M v j = 0) : mt P M v j = mt P M v M := by
  have hx : ∃ k, k < j ∧ wh P M v k = wh P M v j := Classical.byContradiction fun q => h ((rgb_bit hM hv).mpr q)
  obtain ⟨k, hk, e⟩ := hx
  have all : ∀ d, ∃ i, i < j ∧ wh P M v i = wh P M v (j + d) := by
    intro d
    induction d with
    | zero => exact ⟨k, hk, e⟩
    | succ d ih =>
      obtain ⟨i, hi, hi2⟩ := ih
      have h3 : wh P M v (i + 1) = wh P M v (j + d + 1) := wh_shift hi2 1
      rcases Nat.lt_or_ge (i + 1) j with q | q
      · exact ⟨i + 1, q, h3⟩
      · have e2 : i + 1 = j := by omega
        exact ⟨k, hk, by rw [e]; rw [e2] at h3; exact h3⟩
  apply b_ext
  intro a ha
  have h1 := mt_bit (P := P) hM hv ha j
  have h2 := mt_bit (P := P) hM hv ha M
  have h3 : (bt (mt P M v j) a = true) ↔ (bt (mt P M v M) a = true) := by
    rw [h1, h2]
    constructor
    · rintro ⟨i, q1, q2⟩
      exact ⟨i, by omega, q2⟩
    · rintro ⟨i, q1, q2⟩
      rcases Nat.lt_or_ge i j with q | q
      · exact ⟨i, q, q2⟩
      · obtain ⟨i2, q3, q4⟩ := all (i - j)
        rw [show j + (i - j) = i by omega] at q4
        exact ⟨i2, q3, by rw [q4]; exact q2⟩
  cases hb : bt (mt P M v j) a <;> cases hb2 : bt (mt P M v M) a <;> simp [hb, hb2] at h3 ⊢
