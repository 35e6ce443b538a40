/-! ===== what ties the two pictures: town, readings, sheets ===== -/
def RelT (M B : Nat) (P K U mP mK mU : Nat → Int32) : Prop := M ≤ 5 ∧ B ≤ 4 ∧ ((M = 0 ∧ B = 0) ∨ (2 ≤ M ∧ 1 ≤ B)) ∧ eqP P mP M ∧ (∀ j, j < M → P (j * 5 + j) = nI 0) ∧ P9 P M ∧ eqB K mK B ∧ (∀ b, b < B → kd (K b)) ∧ eqB U mU B ∧ (∀ b, b < B → vp_in (U b) M)
def RelR (M B R : Nat) (W1 N1 M1 K1 mW mN mM mQ : Nat → Int32) : Prop := R ≤ 8 ∧ (∀ q, q < R → vp_in (W1 q) B ∧ vp_in (N1 q) (20 + 1) ∧ vp_in (M1 q) M) ∧ eqR W1 N1 M1 K1 mW mN mM mQ B R
def RelS (k : Nat) (ln : Int32) (L : Nat) (F SO SL CE : Nat → Int32) : Prop := L ≤ 60 ∧ eqK ln (SO k) ∧ (ln ≠ (-1) → SL k = nI L) ∧ (ln ≠ (-1) → ∀ i, i < 60 → F i = CE (60 * k + i))
