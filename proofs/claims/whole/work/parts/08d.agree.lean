/-! ===== equal towns, equal answers: the second part ===== -/
section AGS
variable {P P2 K K2 U U2 : Nat → Int32} {M B m u : Nat}
theorem q_upP (h : eqP P P2 M) (hM : M ≤ 5) {a b : Nat} (_ha : a < M) (_hb : b < M) (v : Int32) : eqP (upd P (a * 5 + b) v) (upd P2 (a * 5 + b) v) M := by
  intro c d hc hd
  by_cases e : c * 5 + d = a * 5 + b
  · rw [e, up_s, up_s]
  · rw [up_o e, up_o e]; exact h c d hc hd
theorem q_upB (h : eqB K K2 B) (b : Nat) (v : Int32) : eqB (upd K b v) (upd K2 b v) B := by
  intro c hc
  by_cases e : c = b
  · rw [e, up_s, up_s]
  · rw [up_o e, up_o e]; exact h c hc
theorem q_owe (h : eqP P P2 M) (hM : M ≤ 5) (a b v : Int32) : s_owe M P a b v = s_owe M P2 a b v :=
  q_iF (fun ha => q_iF (fun _ => h _ _ (q_in ha.1 (by omega)) (q_in ha.2.1 (by omega))))
theorem q_bind (hU : eqB U U2 B) (hB : B ≤ 4) (b m : Int32) : s_bind B M U b m = s_bind B M U2 b m :=
  q_iF (fun hb => q_iF (fun _ => hU _ (q_in hb (by omega))))
theorem q_hmf (h : eqP P P2 M) (hu : u < M) : hmf P M u = hmf P2 M u := by
  unfold hmf
  rw [fi_congr (q := fun k => wh P2 M u (k + 1) = u) (fun k _ => by rw [q_wh h hu])]
theorem q_home (h : eqP P P2 M) (hU : eqB U U2 B) (hM : M ≤ 5) (hB : B ≤ 4) (hu : ∀ b, b < B → vp_in (U b) M) (b : Int32) : s_home B M P U b = s_home B M P2 U2 b :=
  q_iF (fun hb => by
    have h1 := q_in hb (by omega)
    rw [← hU _ h1, q_hmf h (q_in (hu _ h1) (by omega))])
theorem q_never (h : eqP P P2 M) (hU : eqB U U2 B) (hM : M ≤ 5) (hB : B ≤ 4) (hu : ∀ b, b < B → vp_in (U b) M) (b : Int32) : s_never B M P U b = s_never B M P2 U2 b :=
  q_iF (fun hb => by
    have h1 := q_in hb (by omega)
    rw [← hU _ h1, q_mt h (q_in (hu _ h1) (by omega))])
theorem q_tell (hK : eqB K K2 B) (hU : eqB U U2 B) (hB : B ≤ 4) (b : Int32) : s_tell B K U b = s_tell B K2 U2 b :=
  q_iF (fun hb => by
    have h1 := q_in hb (by omega)
    rw [← hU _ h1, ← hK _ h1])
theorem q_ttell (hK : eqB K K2 B) (hB : B ≤ 4) (tc b : Int32) : t_tell B K tc b = t_tell B K2 tc b :=
  q_iF (fun hb => by rw [← hK _ (q_in hb (by omega))])
theorem q_call (hK : eqB K K2 B) (hB : B ≤ 4) (b : Int32) : s_call B K b = s_call B K2 b :=
  q_iF (fun hb => by rw [← hK _ (q_in hb (by omega))])
theorem q_tcall (hK : eqB K K2 B) (hB : B ≤ 4) (tc b : Int32) : t_call B K tc b = t_call B K2 tc b :=
  q_iF (fun hb => by rw [← hK _ (q_in hb (by omega))])
theorem q_as (hK : eqB K K2 B) (hB : B ≤ 4) (b k : Int32) : s_as B K b k = s_as B K2 b k :=
  q_iF (fun hb => by rw [← hK _ (q_in hb (by omega))])
theorem q_fas (hK : eqB K K2 B) (hB : B ≤ 4) (b k : Int32) : f_as B K b k = f_as B K2 b k :=
  q_iF (fun hb => by rw [← hK _ (q_in hb (by omega))])
theorem q_wkv (h : eqP P P2 M) (hu : u < M) (g : Nat → Int32) (n : Nat) : wkv P M u g n = wkv P2 M u g n := by
  unfold wkv
  rw [fi_congr (p := fun t => ¬ g t = nI (wh P M u t)) (q := fun t => ¬ g t = nI (wh P2 M u t)) (fun k _ => by rw [q_wh h hu])]
end AGS
