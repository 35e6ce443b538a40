/-! ===== equal towns, equal answers ===== -/
def eqP (P P2 : Nat → Int32) (M : Nat) : Prop := ∀ a b, a < M → b < M → P (a * 5 + b) = P2 (a * 5 + b)
def eqB (K K2 : Nat → Int32) (B : Nat) : Prop := ∀ b, b < B → K b = K2 b
section AGR
variable {P P2 K K2 U U2 : Nat → Int32} {M B m u : Nat}
theorem q_nxt (h : eqP P P2 M) (hm : m < M) : nxt P M m = nxt P2 M m := nxt_row (fun k hk => h m k hm hk) hm
theorem q_wh (h : eqP P P2 M) (hu : u < M) (n : Nat) : wh P M u n = wh P2 M u n := wh_next hu (fun _ hj => q_nxt h hj) n
theorem q_kn (h : eqP P P2 M) (hu : u < M) (tr : Nat) (L : Int32) : ∀ n, kn P M tr L u n = kn P2 M tr L u n
  | 0 => rfl
  | n + 1 => by
    show iF _ _ _ = iF _ _ _
    rw [q_kn h hu tr L n, q_wh h hu n]
theorem q_mt (h : eqP P P2 M) (hu : u < M) : ∀ n, mt P M u n = mt P2 M u n
  | 0 => rfl
  | n + 1 => by
    show _ ||| _ = _ ||| _
    rw [q_mt h hu n, q_wh h hu n]
theorem q_iF {α : Type} {C : Prop} {a b c : α} (h : C → a = c) : iF C a b = iF C c b := by
  by_cases q : C
  · rw [iF_t q, iF_t q]; exact h q
  · rw [iF_f q, iF_f q]
theorem q_in {x : Int32} (h : vp_in x M) (hM : M ≤ 60) : tn x < M := tn_lt h (by omega)
theorem q_owes (h : eqP P P2 M) (hM : M ≤ 5) (a b : Int32) : s_owes M P a b = s_owes M P2 a b :=
  q_iF (fun ha => q_iF (fun hb => h _ _ (q_in ha (by omega)) (q_in hb (by omega))))
theorem q_next (h : eqP P P2 M) (hM : M ≤ 5) (a : Int32) : s_next M P a = s_next M P2 a :=
  q_iF (fun ha => congrArg nI (q_nxt h (q_in ha (by omega))))
theorem q_where (h : eqP P P2 M) (hU : eqB U U2 B) (hM : M ≤ 5) (hB : B ≤ 4) (hu : ∀ b, b < B → vp_in (U b) M) (b n : Int32) : s_where B M P U b n = s_where B M P2 U2 b n :=
  q_iF (fun hb => q_iF (fun _ => by
    have h1 := q_in hb (by omega)
    rw [← hU _ h1, q_wh h (q_in (hu _ h1) (by omega))]))
theorem q_knows (h : eqP P P2 M) (hK : eqB K K2 B) (hU : eqB U U2 B) (hM : M ≤ 5) (hB : B ≤ 4) (hu : ∀ b, b < B → vp_in (U b) M) (b m n : Int32) : s_knows B M P K U b m n = s_knows B M P2 K2 U2 b m n :=
  q_iF (fun hb => q_iF (fun _ => q_iF (fun _ => by
    have h1 := q_in hb (by omega)
    rw [← hU _ h1, ← hK _ h1, q_kn h (q_in (hu _ h1) (by omega))])))
theorem q_ring (h : eqP P P2 M) (hM : M ≤ 5) (a : Int32) : s_ring M P a = s_ring M P2 a :=
  q_iF (fun ha => by
    have h1 := q_in ha (by omega)
    rw [← q_wh h h1, q_mt h (wh_lt h1 M)])
theorem q_ofBoy (hK : eqB K K2 B) (hU : eqB U U2 B) (hB : B ≤ 4) (b w : Int32) : s_ofBoy B K U b w = s_ofBoy B K2 U2 b w :=
  q_iF (fun hb => by
    have h1 := q_in hb (by omega)
    rw [← hU _ h1, ← hK _ h1])
end AGR
