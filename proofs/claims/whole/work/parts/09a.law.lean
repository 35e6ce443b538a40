/-! ===== what ties the two pictures: town, readings, sheets ===== -/
def RelT (M B : Nat) (P K U mP mK mU : Nat → Int32) : Prop := M ≤ 5 ∧ B ≤ 4 ∧ ((M = 0 ∧ B = 0) ∨ (2 ≤ M ∧ 1 ≤ B)) ∧ eqP P mP M ∧ (∀ j, j < M → P (j * 5 + j) = nI 0) ∧ P9 P M ∧ eqB K mK B ∧ (∀ b, b < B → kd (K b)) ∧ eqB U mU B ∧ (∀ b, b < B → vp_in (U b) M)
def RelR (M B R : Nat) (W1 N1 M1 K1 mW mN mM mQ : Nat → Int32) : Prop := R ≤ 8 ∧ (∀ q, q < R → vp_in (W1 q) B ∧ vp_in (N1 q) (20 + 1) ∧ vp_in (M1 q) M) ∧ eqR W1 N1 M1 K1 mW mN mM mQ B R
def RelS (k : Nat) (ln : Int32) (L : Nat) (F SO SL CE : Nat → Int32) : Prop := L ≤ 60 ∧ eqK ln (SO k) ∧ (∃ L1 : Nat, L1 ≤ 60 ∧ SL k = nI L1 ∧ (ln ≠ (-1) → L = L1)) ∧ (ln ≠ (-1) → ∀ i, i < 60 → F i = CE (60 * k + i))
def RelA (M B R : Nat) (P K U mP mK mU W1 N1 M1 K1 mW mN mM mQ ln : Nat → Int32) (L : Nat → Nat) (F : Nat → Nat → Int32) (SO SL CE : Nat → Int32) : Prop := RelT M B P K U mP mK mU ∧ RelR M B R W1 N1 M1 K1 mW mN mM mQ ∧ ∀ k, k < 4 → RelS k (ln k) (L k) (F k) SO SL CE
theorem upd_id (f : Nat → Int32) (i : Nat) : upd f i (f i) = f := upd_self rfl
theorem va_up_id {α : Type} (f : Nat → α) (i : Nat) : va_up f i (f i) = f := by
  funext j
  by_cases e : j = i
  · rw [e, va_up_self]
  · rw [va_up_ne _ _ e]
theorem in_ne {v : Int32} {N : Nat} (h : vp_in v N) : v ≠ (-1) ∧ v ≠ (-9) := ⟨fun e => h (Or.inl (by rw [e]; decide)), fun e => h (Or.inl (by rw [e]; decide))⟩
section LWR
variable {M B R : Nat} {P K U mP mK mU W1 N1 M1 K1 mW mN mM mQ : Nat → Int32}
theorem RelT.z (h : RelT M B P K U mP mK mU) : ∀ j, j < M → mP (j * 5 + j) = nI 0 := by
  obtain ⟨hM, hB, hMB, hp, hz, h9, hk, hkd, hu, hub⟩ := h
  intro j hj
  rw [← hp j j hj hj]; exact hz j hj
theorem RelT.p9 (h : RelT M B P K U mP mK mU) : P9 mP M := by
  obtain ⟨hM, hB, hMB, hp, hz, h9, hk, hkd, hu, hub⟩ := h
  intro a c ha hc
  rw [← hp a c ha hc]; exact h9 a c ha hc
theorem RelT.k (h : RelT M B P K U mP mK mU) : ∀ b, b < B → kd (mK b) := by
  obtain ⟨hM, hB, hMB, hp, hz, h9, hk, hkd, hu, hub⟩ := h
  intro b hb
  rw [← hk b hb]; exact hkd b hb
theorem RelT.u (h : RelT M B P K U mP mK mU) : ∀ b, b < B → vp_in (mU b) M := by
  obtain ⟨hM, hB, hMB, hp, hz, h9, hk, hkd, hu, hub⟩ := h
  intro b hb
  rw [← hu b hb]; exact hub b hb
theorem RelR.m (h : RelR M B R W1 N1 M1 K1 mW mN mM mQ) : ∀ q, q < R → vp_in (mW q) B ∧ vp_in (mN q) (20 + 1) ∧ vp_in (mM q) M := by
  obtain ⟨h1, h2, h3⟩ := h
  intro q hq
  obtain ⟨a, b, c, d, e⟩ := h3 q hq
  rw [← a, ← b, ← c]; exact h2 q hq
theorem k_owe (hT : RelT M B P K U mP mK mU) (a b v : Int32) : RelT M B (w_owe M P a b v) K U (w_owe M mP a b v) mK mU := by
  obtain ⟨hM, hB, hMB, hp, hz, h9, hk, hkd, hu, hub⟩ := id hT
  unfold w_owe
  by_cases c1 : hd M a b
  · by_cases c2 : vp_in v (9 + 1)
    · simp only [iF_t c1, iF_t c2]
      have ha := q_in c1.1 (by omega)
      have hb := q_in c1.2.1 (by omega)
      have hne : tn a ≠ tn b := fun e => c1.2.2 (by rw [tn_of c1.1 (by omega), tn_of c1.2.1 (by omega), e])
      refine ⟨hM, hB, hMB, q_upP hp hM ha hb v, fun j hj => ?_, fun c d hc hd9 => ?_, hk, hkd, hu, hub⟩
      · rw [up_o (by omega)]; exact hz j hj
      · by_cases e : c * 5 + d = tn a * 5 + tn b
        · rw [e, up_s]; exact c2
        · rw [up_o e]; exact h9 c d hc hd9
    · simp only [iF_t c1, iF_f c2]; exact hT
  · simp only [iF_f c1]; exact hT
theorem k_bind (hT : RelT M B P K U mP mK mU) (b m : Int32) : RelT M B P K (w_bind B M U b m) mP mK (w_bind B M mU b m) := by
  obtain ⟨hM, hB, hMB, hp, hz, h9, hk, hkd, hu, hub⟩ := id hT
  unfold w_bind
  by_cases c1 : vp_in b B
  · by_cases c2 : vp_in m M
    · simp only [iF_t c1, iF_t c2]
      refine ⟨hM, hB, hMB, hp, hz, h9, hk, hkd, q_upB hu (tn b) m, fun c hc => ?_⟩
      by_cases e : c = tn b
      · rw [e, up_s]; exact c2
      · rw [up_o e]; exact hub c hc
    · simp only [iF_t c1, iF_f c2]; exact hT
  · simp only [iF_f c1]; exact hT
theorem k_note {b n m k k2 : Int32} (hR : RelR M B R W1 N1 M1 K1 mW mN mM mQ) (h8 : R < 8) (hb : vp_in b B) (hn : vp_in n (20 + 1)) (hm : vp_in m M) (hq : eqK k k2) : RelR M B (R + 1) (upd W1 R b) (upd N1 R n) (upd M1 R m) (upd K1 R k) (upd mW R b) (upd mN R n) (upd mM R m) (upd mQ R k2) := by
  obtain ⟨h1, h2, h3⟩ := hR
  refine ⟨by omega, fun q hq9 => ?_, fun q hq9 => ?_⟩
  · by_cases e : q = R
    · rw [e]; simp only [up_s]; exact ⟨hb, hn, hm⟩
    · simp only [up_o e]; exact h2 q (by omega)
  · by_cases e : q = R
    · rw [e]; simp only [up_s]; exact ⟨trivial, trivial, trivial, hq, hb⟩
    · simp only [up_o e]; exact h3 q (by omega)
theorem k_read {j : Nat} (hR : RelR M B R W1 N1 M1 K1 mW mN mM mQ) (hj : R < 8 → R = j) (b n m : Int32) : RelR M B (rdG B M R b n m (R + 1) R) (upd W1 j (rdG B M R b n m b (W1 j))) (upd N1 j (rdG B M R b n m n (N1 j))) (upd M1 j (rdG B M R b n m m (M1 j))) (upd K1 j (rdG B M R b n m (-1) (K1 j))) (rdG B M R b n m (upd mW R b) mW) (rdG B M R b n m (upd mN R n) mN) (rdG B M R b n m (upd mM R m) mM) (rdG B M R b n m (upd mQ R (-9)) mQ) := by
  by_cases c1 : vp_in b B
  · by_cases c2 : vp_in m M
    · by_cases c3 : vp_in n (20 + 1)
      · by_cases c4 : R < 8
        · have hj := hj c4
          subst hj
          simp only [rdG, iF_t c1, iF_t c2, iF_t c3, iF_t c4]
          exact k_note hR c4 c1 c3 c2 (Or.inl ⟨rfl, rfl⟩)
        · simp only [rdG, iF_t c1, iF_t c2, iF_t c3, iF_f c4, upd_id]; exact hR
      · simp only [rdG, iF_t c1, iF_t c2, iF_f c3, upd_id]; exact hR
    · simp only [rdG, iF_t c1, iF_f c2, upd_id]; exact hR
  · simp only [rdG, iF_f c1, upd_id]; exact hR
theorem k_exam {j : Nat} (hR : RelR M B R W1 N1 M1 K1 mW mN mM mQ) (hj : R < 8 → R = j) (b n m v : Int32) : RelR M B (exG B M R b n m v (R + 1) R) (upd W1 j (exG B M R b n m v b (W1 j))) (upd N1 j (exG B M R b n m v n (N1 j))) (upd M1 j (exG B M R b n m v m (M1 j))) (upd K1 j (exG B M R b n m v v (K1 j))) (exG B M R b n m v (upd mW R b) mW) (exG B M R b n m v (upd mN R n) mN) (exG B M R b n m v (upd mM R m) mM) (exG B M R b n m v (upd mQ R v) mQ) := by
  by_cases c1 : vp_in b B
  · by_cases c2 : vp_in m M
    · by_cases c3 : vp_in n (20 + 1)
      · by_cases c5 : vp_in v (40 + 1)
        · by_cases c4 : R < 8
          · have hj := hj c4
            subst hj
            simp only [exG, iF_t c1, iF_t c2, iF_t c3, iF_t c4, iF_t c5]
            exact k_note hR c4 c1 c3 c2 (Or.inr ⟨(in_ne c5).1, (in_ne c5).2, rfl⟩)
          · simp only [exG, iF_t c1, iF_t c2, iF_t c3, iF_t c5, iF_f c4, upd_id]; exact hR
        · simp only [exG, iF_t c1, iF_t c2, iF_t c3, iF_f c5, upd_id]; exact hR
      · simp only [exG, iF_t c1, iF_t c2, iF_f c3, upd_id]; exact hR
    · simp only [exG, iF_t c1, iF_f c2, upd_id]; exact hR
  · simp only [exG, iF_f c1, upd_id]; exact hR
theorem r_back_le (R : Nat) (k : Int32) : r_back R k ≤ R := by
  unfold r_back
  by_cases c : vp_in k (R + 1)
  · rw [iF_t c]; omega
  · rw [iF_f c]; omega
theorem k_back (hR : RelR M B R W1 N1 M1 K1 mW mN mM mQ) (k : Int32) : RelR M B (r_back R k) W1 N1 M1 K1 mW mN mM mQ := by
  obtain ⟨h1, h2, h3⟩ := hR
  have h := r_back_le R k
  exact ⟨by omega, fun q hq => h2 q (by omega), fun q hq => h3 q (by omega)⟩
theorem RelR.nil : RelR M B 0 W1 N1 M1 K1 mW mN mM mQ := ⟨by omega, fun q hq => absurd hq (by omega), fun q hq => absurd hq (by omega)⟩
end LWR
