/-! ===== equal towns, equal answers: forge ===== -/
section AGF
variable {P P2 U U2 : Nat → Int32} {M B u : Nat}
theorem q_fgq (h : eqP P P2 M) (hM : M ≤ 5) {a c : Nat} (ha : a < M) (hc : c < M) : fgq P M a c = fgq P2 M a c := by
  unfold fgq
  rw [← h a c ha hc]
  exact fi_congr (fun k _ => by rw [q_nxt (q_upP h hM ha hc _) ha])
theorem q_thx (h : eqP P P2 M) (hM : M ≤ 5) (hu : u < M) (n g : Nat) {k : Nat} (hk : k < M * M) : thx P M u n g k = thx P2 M u n g k := by
  have ha : k / M < M := Nat.div_lt_of_lt_mul hk
  have hc : k % M < M := Nat.mod_lt _ (by omega)
  unfold thx
  rw [q_nxt h ha, q_fgq h hM ha hc, h _ _ ha hc]
  cases fgq P2 M (k / M) (k % M) with
  | none => rfl
  | some t =>
    simp only [q_wh (q_upP h hM ha hc _) hu]
theorem q_bst {f g : Nat → Option Nat} : ∀ {n : Nat}, (∀ k, k < n → f k = g k) → bst f n = bst g n
  | 0, _ => rfl
  | n + 1, h => by
    unfold bst
    rw [q_bst (fun k hk => h k (by omega)), h n (by omega)]
theorem q_fgr (h : eqP P P2 M) (hM : M ≤ 5) (hu : u < M) (n g : Nat) (w : Int32) : fgr P M u n g w = fgr P2 M u n g w := by
  unfold fgr
  rw [q_wh h hu, q_bst (fun k hk => q_thx h hM hu n g hk)]
theorem q_forge (h : eqP P P2 M) (hU : eqB U U2 B) (hM : M ≤ 5) (hB : B ≤ 4) (hu : ∀ b, b < B → vp_in (U b) M) (b m n w : Int32) : s_forge B M P U b m n w = s_forge B M P2 U2 b m n w :=
  q_iF (fun hb => q_iF (fun _ => q_iF (fun _ => q_iF (fun _ => by
    have h1 := q_in hb (by omega)
    rw [← hU _ h1, q_fgr h hM (q_in (hu _ h1) (by omega))]))))
end AGF
