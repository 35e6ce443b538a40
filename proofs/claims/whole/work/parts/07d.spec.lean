/-! ===== where the reference's reading of a town ends ===== -/
section RTN
variable {CE : Nat → Int32} {f0 M m b c n k : Nat}
theorem pr1 (hM2 : 2 ≤ M) (hM : M ≤ 5) (hm : m < M) : fitP (fun t => CE (f0 + t)) M (2 + m * (M + 1)) ↔ CE (f0 + 2 + m * (M + 1)) = nI 44 := by
  rw [show f0 + 2 + m * (M + 1) = f0 + (2 + m * (M + 1)) by omega]
  exact pl1 hM2 hM hm
theorem pr2 (hM2 : 2 ≤ M) (hM : M ≤ 5) (hm : m < M) (hb : b < M) : fitP (fun t => CE (f0 + t)) M (2 + m * (M + 1) + 1 + b) ↔ dgt (CE (f0 + 2 + m * (M + 1) + 1 + b)) 0 (if b = m then 0 else 9) := by
  rw [show f0 + 2 + m * (M + 1) + 1 + b = f0 + (2 + m * (M + 1) + 1 + b) by omega]
  exact pl2 hM2 hM hm hb
theorem pr3 (hM2 : 2 ≤ M) (hM : M ≤ 5) : fitP (fun t => CE (f0 + t)) M (2 + M * (M + 1) + 3 * c) ↔ (CE (f0 + (2 + M * (M + 1)) + 3 * c) = nI 59 ∧ c < 4) := by
  rw [show f0 + (2 + M * (M + 1)) + 3 * c = f0 + (2 + M * (M + 1) + 3 * c) by omega]
  exact pl3 hM2 hM
theorem pr4 (hM2 : 2 ≤ M) (hM : M ≤ 5) : fitP (fun t => CE (f0 + t)) M (2 + M * (M + 1) + 3 * c + 1) ↔ (¬ CE (f0 + (2 + M * (M + 1)) + 3 * c + 1) < nI 98 ∧ ¬ nI 100 < CE (f0 + (2 + M * (M + 1)) + 3 * c + 1)) := by
  rw [show f0 + (2 + M * (M + 1)) + 3 * c + 1 = f0 + (2 + M * (M + 1) + 3 * c + 1) by omega]
  exact pl4 hM2 hM
theorem pr5 (hM2 : 2 ≤ M) (hM : M ≤ 5) : fitP (fun t => CE (f0 + t)) M (2 + M * (M + 1) + 3 * c + 2) ↔ dgt (CE (f0 + (2 + M * (M + 1)) + 3 * c + 2)) 0 (M - 1) := by
  rw [show f0 + (2 + M * (M + 1)) + 3 * c + 2 = f0 + (2 + M * (M + 1) + 3 * c + 2) by omega]
  exact pl5 hM2 hM
theorem all1 (h : CE f0 = nI 106) : ∀ q, q < 1 → fitP (fun t => CE (f0 + t)) M q := by
  intro q hq
  obtain rfl : q = 0 := by omega
  exact ⟨fun _ => h, fun q => absurd q (by omega), fun q => absurd rfl q, fun q => absurd rfl q⟩
theorem all2 (h : CE f0 = nI 106) (hM2 : 2 ≤ M) : ∀ q, q < 2 + 0 * (M + 1) → fitP (fun t => CE (f0 + t)) M q := by
  intro q hq
  rw [Nat.zero_mul] at hq
  rcases (show q < 1 ∨ q = 1 by omega) with e | rfl
  · exact all1 h q e
  · exact ⟨fun q => absurd q (by omega), fun _ => by omega, fun _ q => absurd rfl q, fun _ q => absurd rfl q⟩
theorem ff0 (h : ¬ (f0 < f0 + n ∧ CE f0 = nI 106)) : ffP (fun t => CE (f0 + t)) M n = 0 ∧ ¬ okT (fun t => CE (f0 + t)) M n :=
  ff_at (fun q hq => absurd hq (by omega)) (by omega) (fun h1 hf => h ⟨by omega, hf.1 rfl⟩) (fun h1 => nc_lt (Nat.le_trans (show n ≤ 2 by omega) (Nat.le_add_right 2 _)))
theorem ff1 (h0 : f0 < f0 + n ∧ CE f0 = nI 106) (h : ¬ (f0 + 1 < f0 + n ∧ dgt (CE (f0 + 1)) 2 5)) (hMt : M = mT (fun t => CE (f0 + t)) n) : ffP (fun t => CE (f0 + t)) M n = 1 ∧ ¬ okT (fun t => CE (f0 + t)) M n := by
  have e : M = 0 := hMt.trans (mT_no (fun q => h ⟨by have := q.1; omega, dg_mT.mpr q.2⟩))
  exact ff_at (all1 h0.2) (by omega) (fun h1 hf => absurd (hf.2.1 rfl) (by omega)) (fun h1 => nc_lt (Nat.le_trans (show n ≤ 2 by omega) (Nat.le_add_right 2 _)))
theorem mT9 (h0 : f0 + 1 < f0 + n ∧ dgt (CE (f0 + 1)) 2 5) (hMt : M = mT (fun t => CE (f0 + t)) n) : nI (d9 (CE (f0 + 1))) = nI M ∧ 2 ≤ M ∧ M ≤ 5 := by
  have h := mT_yes (g := fun t => CE (f0 + t)) (n := n) ⟨by omega, dg_mT.mp h0.2⟩
  rw [← hMt] at h
  exact ⟨(dg_of h0.2 (by omega) (by omega)).1.symm.trans h.1, h.2⟩
theorem ff2 (hM2 : 2 ≤ M) (hM : M ≤ 5) (hm : m < M) (hall : ∀ q, q < 2 + m * (M + 1) → fitP (fun t => CE (f0 + t)) M q) (hle : 2 + m * (M + 1) ≤ n) (h : ¬ (f0 + 2 + m * (M + 1) < f0 + n ∧ CE (f0 + 2 + m * (M + 1)) = nI 44)) : ffP (fun t => CE (f0 + t)) M n = 2 + m * (M + 1) ∧ ¬ okT (fun t => CE (f0 + t)) M n := by
  have h1 := mulM hM2 hM hm
  exact ff_at hall hle (fun h2 hf => h ⟨by omega, (pr1 hM2 hM hm).mp hf⟩) (fun h2 => nc_lt (by omega))
theorem ok_dg (hok : ∀ b, b < k → okM CE (f0 + 2 + m * (M + 1) + 1) (f0 + n) m b) : ∀ b, b < k → dgt (CE (f0 + (2 + m * (M + 1) + 1 + b))) 0 (if b = m then 0 else 9) := by
  intro b hb
  have h := (hok b hb).2
  rw [show f0 + 2 + m * (M + 1) + 1 + b = f0 + (2 + m * (M + 1) + 1 + b) by omega] at h
  exact h
theorem c_as {x y : Int32} (e : CE (f0 + 2 + m * (M + 1)) = x) : CE (f0 + (2 + m * (M + 1))) = x := by
  rw [show f0 + (2 + m * (M + 1)) = f0 + 2 + m * (M + 1) by omega]; exact e
theorem ff3 (hM2 : 2 ≤ M) (hM : M ≤ 5) (hm : m < M) (hall : ∀ q, q < 2 + m * (M + 1) → fitP (fun t => CE (f0 + t)) M q) (h : f0 + 2 + m * (M + 1) < f0 + n ∧ CE (f0 + 2 + m * (M + 1)) = nI 44) (hk : k < M) (hok : ∀ b, b < k → okM CE (f0 + 2 + m * (M + 1) + 1) (f0 + n) m b) (hno : ¬ okM CE (f0 + 2 + m * (M + 1) + 1) (f0 + n) m k) : ffP (fun t => CE (f0 + t)) M n = 2 + m * (M + 1) + 1 + k ∧ ¬ okT (fun t => CE (f0 + t)) M n := by
  have h1 := mulM hM2 hM hm
  have h2 : 2 + m * (M + 1) + 1 + k ≤ n := by
    rcases Nat.eq_zero_or_pos k with e | e
    · omega
    · have := (hok (k - 1) (by omega)).1
      omega
  exact ff_at (all_part hM2 hM hm (Nat.le_of_lt hk) hall (c_as (y := 0) h.2) (ok_dg hok)) h2 (fun h3 hf => hno ⟨by omega, (pr2 hM2 hM hm hk).mp hf⟩) (fun h3 => nc_lt (by omega))
theorem rowS (hM2 : 2 ≤ M) (hM : M ≤ 5) (hm : m < M) (hall : ∀ q, q < 2 + m * (M + 1) → fitP (fun t => CE (f0 + t)) M q) (h : f0 + 2 + m * (M + 1) < f0 + n ∧ CE (f0 + 2 + m * (M + 1)) = nI 44) (hok : ∀ b, b < M → okM CE (f0 + 2 + m * (M + 1) + 1) (f0 + n) m b) : (∀ q, q < 2 + (m + 1) * (M + 1) → fitP (fun t => CE (f0 + t)) M q) ∧ 2 + (m + 1) * (M + 1) ≤ n := by
  refine ⟨all_row hM2 hM hm hall (c_as (y := 0) h.2) (ok_dg hok), ?_⟩
  have := (hok (M - 1) (by omega)).1
  rw [Nat.succ_mul]
  omega
theorem ff4 (hM2 : 2 ≤ M) (hM : M ≤ 5) (hall : ∀ q, q < 2 + M * (M + 1) + 3 * c → fitP (fun t => CE (f0 + t)) M q) (hle : 2 + M * (M + 1) + 3 * c ≤ n) (h0 : c = 0 ∨ f0 + (2 + M * (M + 1)) + 3 * c < f0 + n) (h : ¬ (f0 + (2 + M * (M + 1)) + 3 * c < f0 + n ∧ CE (f0 + (2 + M * (M + 1)) + 3 * c) = nI 59)) : ffP (fun t => CE (f0 + t)) M n = 2 + M * (M + 1) + 3 * c ∧ ¬ okT (fun t => CE (f0 + t)) M n :=
  ff_at hall hle (fun h2 hf => h ⟨by omega, ((pr3 hM2 hM).mp hf).1⟩) (fun h2 => nc_lt (by omega))
theorem boy1 (hM2 : 2 ≤ M) (hM : M ≤ 5) (hc : c < 4) (hall : ∀ q, q < 2 + M * (M + 1) + 3 * c → fitP (fun t => CE (f0 + t)) M q) (h : CE (f0 + (2 + M * (M + 1)) + 3 * c) = nI 59) : ∀ q, q < 2 + M * (M + 1) + 3 * c + 1 → fitP (fun t => CE (f0 + t)) M q :=
  all_up hall ((pr3 hM2 hM).mpr ⟨h, hc⟩)
theorem nc_1 (h : 2 + M * (M + 1) + 3 * c + 1 = n) : ¬ cmpl M n := fun q => by have := q.2; omega
theorem nc_2 (h : 2 + M * (M + 1) + 3 * c + 2 = n) : ¬ cmpl M n := fun q => by have := q.2; omega
theorem ff5 (hM2 : 2 ≤ M) (hM : M ≤ 5) (hc : c < 4) (hall : ∀ q, q < 2 + M * (M + 1) + 3 * c → fitP (fun t => CE (f0 + t)) M q) (h : f0 + (2 + M * (M + 1)) + 3 * c < f0 + n ∧ CE (f0 + (2 + M * (M + 1)) + 3 * c) = nI 59) (hno : ¬ (f0 + (2 + M * (M + 1)) + 3 * c + 1 < f0 + n ∧ ¬ CE (f0 + (2 + M * (M + 1)) + 3 * c + 1) < nI 98 ∧ ¬ nI 100 < CE (f0 + (2 + M * (M + 1)) + 3 * c + 1))) : ffP (fun t => CE (f0 + t)) M n = 2 + M * (M + 1) + 3 * c + 1 ∧ ¬ okT (fun t => CE (f0 + t)) M n :=
  ff_at (boy1 hM2 hM hc hall h.2) (by omega) (fun h2 hf => hno ⟨by omega, (pr4 hM2 hM).mp hf⟩) nc_1
theorem boy2 (hM2 : 2 ≤ M) (hM : M ≤ 5) (hc : c < 4) (hall : ∀ q, q < 2 + M * (M + 1) + 3 * c → fitP (fun t => CE (f0 + t)) M q) (h : CE (f0 + (2 + M * (M + 1)) + 3 * c) = nI 59) (hk : ¬ CE (f0 + (2 + M * (M + 1)) + 3 * c + 1) < nI 98 ∧ ¬ nI 100 < CE (f0 + (2 + M * (M + 1)) + 3 * c + 1)) : ∀ q, q < 2 + M * (M + 1) + 3 * c + 2 → fitP (fun t => CE (f0 + t)) M q :=
  all_up (boy1 hM2 hM hc hall h) ((pr4 hM2 hM).mpr hk)
theorem ff6 (hM2 : 2 ≤ M) (hM : M ≤ 5) (hc : c < 4) (hall : ∀ q, q < 2 + M * (M + 1) + 3 * c → fitP (fun t => CE (f0 + t)) M q) (h : f0 + (2 + M * (M + 1)) + 3 * c < f0 + n ∧ CE (f0 + (2 + M * (M + 1)) + 3 * c) = nI 59) (hk : f0 + (2 + M * (M + 1)) + 3 * c + 1 < f0 + n ∧ ¬ CE (f0 + (2 + M * (M + 1)) + 3 * c + 1) < nI 98 ∧ ¬ nI 100 < CE (f0 + (2 + M * (M + 1)) + 3 * c + 1)) (hno : ¬ (f0 + (2 + M * (M + 1)) + 3 * c + 1 + 1 < f0 + n ∧ dgt (CE (f0 + (2 + M * (M + 1)) + 3 * c + 1 + 1)) 0 (M - 1))) : ffP (fun t => CE (f0 + t)) M n = 2 + M * (M + 1) + 3 * c + 2 ∧ ¬ okT (fun t => CE (f0 + t)) M n :=
  ff_at (boy2 hM2 hM hc hall h.2 hk.2) (by omega) (fun h2 hf => hno ⟨by omega, (pr5 hM2 hM).mp hf⟩) nc_2
theorem boyS (hM2 : 2 ≤ M) (hM : M ≤ 5) (hc : c < 4) (hall : ∀ q, q < 2 + M * (M + 1) + 3 * c → fitP (fun t => CE (f0 + t)) M q) (h : CE (f0 + (2 + M * (M + 1)) + 3 * c) = nI 59) (hk : ¬ CE (f0 + (2 + M * (M + 1)) + 3 * c + 1) < nI 98 ∧ ¬ nI 100 < CE (f0 + (2 + M * (M + 1)) + 3 * c + 1)) (hd : dgt (CE (f0 + (2 + M * (M + 1)) + 3 * c + 1 + 1)) 0 (M - 1)) : ∀ q, q < 2 + M * (M + 1) + 3 * (c + 1) → fitP (fun t => CE (f0 + t)) M q :=
  fun q hq => all_up (boy2 hM2 hM hc hall h hk) ((pr5 hM2 hM).mpr hd) q (by omega)
theorem ok7 (hall : ∀ q, q < 2 + M * (M + 1) + 3 * c → fitP (fun t => CE (f0 + t)) M q) (hc : 0 < c) (e : f0 + (2 + M * (M + 1)) + 3 * c = f0 + n) : okT (fun t => CE (f0 + t)) M n ∧ (n - (2 + M * (M + 1))) / 3 = c := by
  have e1 : n = 2 + M * (M + 1) + 3 * c := by omega
  refine ⟨ok_at (fun q hq => hall q (by omega)) ⟨by omega, by omega⟩, by omega⟩
theorem ff7 (hM2 : 2 ≤ M) (hM : M ≤ 5) (hc : 4 ≤ c) (hall : ∀ q, q < 2 + M * (M + 1) + 3 * c → fitP (fun t => CE (f0 + t)) M q) (hle : 2 + M * (M + 1) + 3 * c ≤ n) (e : f0 + (2 + M * (M + 1)) + 3 * c ≠ f0 + n) : ffP (fun t => CE (f0 + t)) M n = 2 + M * (M + 1) + 3 * c ∧ ¬ okT (fun t => CE (f0 + t)) M n :=
  ff_at hall hle (fun h2 hf => absurd ((pr3 hM2 hM).mp hf).2 (by omega)) (fun h2 => absurd h2 (by omega))
end RTN
