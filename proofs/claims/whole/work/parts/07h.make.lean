/-! ===== contracts of what makes cells ===== -/
def Mk (l : Launch) (G : Gl) (y : MethodName) (ws : List Cond) (rm : Room) (mc ms : Nat) (av : List Value) (w : va_W) (Φ : Option Value → va_W → va_W → Prop) : Prop :=
  ∀ sz : Nat, Met l y ws rm (va_Pc av (fun U => (va_P G.1 vwCl w U.heap ∧ KK G U ∧ va_D (fun _ => True) w) ∧ U.heap.size = sz)) (fun _ st oc t => ∃ (rv : Option Value) (w' x : va_W), oc = .returned rv ∧ Φ rv w' x ∧ w'.map Prod.fst = w.map Prod.fst ∧ va_P G.1 vwCl (w' ++ x) t.heap ∧ va_D (va_A w sz) (w' ++ x) ∧ va_F (va_A w sz) st t) mc ms (va_A w sz)
section BMM
variable {l : Launch} {G : Gl} {y : MethodName} {ws ws' : List Cond} {rm : Room} {mc ms : Nat} {av : List Value} {w : va_W} {Φ : Option Value → va_W → va_W → Prop} {cc : ByteArray} {maxL : Nat}
theorem Mk.ofI (hy : plainName y.cls = true) (hw : ws = .code y cc maxL (some .int) :: ws') (hlen : (lg_sl av).length ≤ maxL)
    (body : ∀ (p : Program) (e : Env) (s : State) (m : MethodId) (below : List Frame) (meth : Method) (c : Code) (Q : State → Prop) (A : Nat → Prop) (ls : Array Slot), CallFix p m c cc maxL s av.toArray ws y.cls → va_P G.1 vwCl w s.heap → KK G s → va_D A w → va_S A s.heap s.heap [] → (∀ q, s.heap.size ≤ q → A q) → lv_has ls maxL (lv_args 0 av) →
      (∀ (pc : Nat) (ls : Array Slot) (H : Heap) (locs : List Loc) (v : Int32) (w' x : va_W), Φ (some (.int v)) w' x → w'.map Prod.fst = w.map Prod.fst → va_P G.1 vwCl (w' ++ x) H → va_D A (w' ++ x) → va_S A s.heap H locs → decode cc pc = .ok (.ireturn, 1) → W p l e rm s m av.toArray below meth c H locs mc ms Q (F0 m pc ls [.int v])) →
      W p l e rm s m av.toArray below meth c s.heap [] 0 0 Q (F0 m 0 ls [])) : Mk l G y ws rm mc ms av w Φ := by
  intro sz
  refine Met.ofW (cc := cc) (maxL := maxL) (ret := some .int) hy hw ?_
  intro p e s m args below meth c s₁ B hml hv
  obtain ⟨rfl, ⟨hP, hK, hD⟩, hz⟩ := hv
  have hlocks := B.notSynchronized
  have hl := lv_entry av (n := maxL) hlen
  rw [lg_entry_eq]
  exact body p e s m below meth c _ (va_A w sz) _ ⟨B.exec, B.bytes, hml, findClass_of_methodNamed B.named, atoms_spec (ws := ws) B.pre⟩ hP hK hD.self va_S.rf (fun q h => Or.inr (by rw [← hz]; exact h)) hl (fun pc ls H locs v w' x hF hf hP hD hS hd => W.iret B.exec B.bytes B.returns (fun t ht _ => ⟨_, w', x, rfl, hF, hf, by rw [ht]; exact hP, hD, hS.F ht⟩) hS.2.2 hd)
theorem Mk.ofV (hy : plainName y.cls = true) (hw : ws = .code y cc maxL none :: ws') (hlen : (lg_sl av).length ≤ maxL)
    (body : ∀ (p : Program) (e : Env) (s : State) (m : MethodId) (below : List Frame) (meth : Method) (c : Code) (Q : State → Prop) (A : Nat → Prop) (ls : Array Slot), CallFix p m c cc maxL s av.toArray ws y.cls → meth.name = y.name → va_P G.1 vwCl w s.heap → KK G s → va_D A w → va_S A s.heap s.heap [] → (∀ q, s.heap.size ≤ q → A q) → lv_has ls maxL (lv_args 0 av) →
      (∀ (pc : Nat) (ls : Array Slot) (H : Heap) (locs : List Loc) (w' x : va_W), Φ none w' x → w'.map Prod.fst = w.map Prod.fst → va_P G.1 vwCl (w' ++ x) H → va_D A (w' ++ x) → va_S A s.heap H locs → decode cc pc = .ok (.return_, 1) → W p l e rm s m av.toArray below meth c H locs mc ms Q (F0 m pc ls [])) →
      W p l e rm s m av.toArray below meth c s.heap [] 0 0 Q (F0 m 0 ls [])) : Mk l G y ws rm mc ms av w Φ := by
  intro sz
  refine Met.ofW (cc := cc) (maxL := maxL) (ret := none) hy hw ?_
  intro p e s m args below meth c s₁ B hml hv
  obtain ⟨rfl, ⟨hP, hK, hD⟩, hz⟩ := hv
  have hlocks := B.notSynchronized
  have hl := lv_entry av (n := maxL) hlen
  rw [lg_entry_eq]
  exact body p e s m below meth c _ (va_A w sz) _ ⟨B.exec, B.bytes, hml, findClass_of_methodNamed B.named, atoms_spec (ws := ws) B.pre⟩ (name_of_methodNamed B.named B.method).1 hP hK hD.self va_S.rf (fun q h => Or.inr (by rw [← hz]; exact h)) hl (fun pc ls H locs w' x hF hf hP hD hS hd => W.vret B.exec B.bytes B.returns (fun t ht _ => ⟨_, w', x, rfl, hF, hf, by rw [ht]; exact hP, hD, hS.F ht⟩) hS.2.2 hd)
end BMM
theorem A_Ow {w : va_W} {sz q : Nat} (h : va_A w sz q) : Ow w q ∨ sz ≤ q := by
  rcases h with ⟨k, e, h⟩ | h
  · exact Or.inl (List.mem_map.mpr ⟨_, List.mem_of_getElem? h, rfl⟩)
  · exact Or.inr h
theorem Ow_same {w w' : va_W} (h : w'.map Prod.fst = w.map Prod.fst) {q : Nat} (ho : Ow w q) : ∃ (k : Nat) (e : Nat × va_E), w'[k]? = some e ∧ e.1 = q := by
  have h1 : q ∈ w'.map Prod.fst := by rw [h]; exact ho
  obtain ⟨e, he, hq⟩ := List.mem_map.mp h1
  obtain ⟨k, hk⟩ := List.getElem?_of_mem he
  exact ⟨k, e, hk, hq⟩
theorem new_ge {w w' x : va_W} {sz : Nat} (hf : w'.map Prod.fst = w.map Prod.fst) (hD : va_D (va_A w sz) (w' ++ x)) : ∀ (k : Nat) (q : Nat × va_E), x[k]? = some q → sz ≤ q.1 := by
  intro k q hk
  have h1 : (w' ++ x)[w'.length + k]? = some q := by
    rw [List.getElem?_append_right (by omega), Nat.add_sub_cancel_left]; exact hk
  rcases A_Ow (hD.2 _ _ h1) with ho | h
  · obtain ⟨j, e, hj, he⟩ := Ow_same hf ho
    have hlt : j < w'.length := (List.getElem?_eq_some_iff.mp hj).1
    have h2 : (w' ++ x)[j]? = some e := by rw [List.getElem?_append_left hlt]; exact hj
    have := hD.1 _ _ _ _ h2 h1 he
    omega
  · exact h
section BCM
variable {p : Program} {l : Launch} {e : Env} {R : Room} {s : State} {m : MethodId} {args : Array Value} {below : List Frame} {meth : Method} {c : Code} {H : Heap} {locs : List Loc} {cells slots : Nat} {Q : State → Prop}
variable {pc : Nat} {ls : Array Slot} {rest st0 : List Value} {A : Nat → Prop} {H0 : Heap} {G : Gl} {W0 w : va_W} {rm : Room} {Φ : Option Value → va_W → va_W → Prop} {mc ms : Nat}
theorem cMk (hr : va_Run p l e R s m args below meth c H locs cells slots mc ms (F0 m pc ls st0) rest (fun st oc t => ∃ (rv : Option Value) (w' x : va_W), oc = .returned rv ∧ Φ rv w' x ∧ w'.map Prod.fst = w.map Prod.fst ∧ va_P G.1 vwCl (w' ++ x) t.heap ∧ va_D (va_A w H.size) (w' ++ x) ∧ va_F (va_A w H.size) st t) (va_A w H.size))
    (hP : va_P G.1 vwCl W0 H) (hD : va_D A W0) (hS : va_S A H0 H locs) (hA : ∀ q, H0.size ≤ q → A q) (is : List Nat) (hC : is.map (fun i => W0[i]?) = w.map some)
    (kk : ∀ (rv : Option Value) (w' x : va_W) (H1 : Heap) (locs1 : List Loc), Φ rv w' x → va_P G.1 vwCl (sAll W0 is w' ++ x) H1 → va_D A (sAll W0 is w' ++ x) → va_S A H0 H1 locs1 → W p l e R s m args below meth c H1 locs1 (cells + mc) (slots + ms) Q (F0 m (pc + 3) ls (rv.toList ++ rest))) : W p l e R s m args below meth c H locs cells slots Q (F0 m pc ls st0) := by
  intro T hT X
  obtain ⟨v, st₀, t, T', L, h0, X', hL, e1, e2, ⟨rv, w', x, hv, hF, hfs, hP1, hD1, hz, hk⟩, st⟩ := hr T hT X
  cases hv
  rw [h0] at hz hk
  have hO := Ow.sub hD hC
  have hge := new_ge hfs hD1
  have hAA : ∀ q, va_A w H.size q → A q := fun q h => (A_Ow h).elim (hO q) (fun h => hA q (Nat.le_trans hS.1 h))
  have hPw : va_P G.1 vwCl w' t.heap := fun k q hq => hP1 k q (by rw [List.getElem?_append_left (List.getElem?_eq_some_iff.mp hq).1]; exact hq)
  have hPx : va_P G.1 vwCl x t.heap := fun k q hq => hP1 (w'.length + k) q (by rw [List.getElem?_append_right (by omega), Nat.add_sub_cancel_left]; exact hq)
  have hDx : va_D A x := ⟨fun i j a b ha hb hab => by
    have h1 : (w' ++ x)[w'.length + i]? = some a := by rw [List.getElem?_append_right (by omega), Nat.add_sub_cancel_left]; exact ha
    have h2 : (w' ++ x)[w'.length + j]? = some b := by rw [List.getElem?_append_right (by omega), Nat.add_sub_cancel_left]; exact hb
    have := hD1.1 _ _ _ _ h1 h2 hab
    omega, fun k q hq => hA _ (Nat.le_trans hS.1 (hge k q hq))⟩
  have hPs : va_P G.1 vwCl (sAll W0 is w') t.heap := sAll_P hP hD hC hfs (fun q h1 h2 => hk q h1 (fun h => (A_Ow h).elim h2 (fun h => by omega))) hPw
  have hDs := sAll_D hD hC hfs
  have hlt : ∀ (k : Nat) (q : Nat × va_E), (sAll W0 is w')[k]? = some q → q.1 < H.size := by
    intro k q hq
    have hlen : is.length = w'.length := by
      have h1 := congrArg List.length hC
      have h2 := congrArg List.length hfs
      simp only [List.length_map] at h1 h2
      omega
    rcases sAll_get is W0 w' hlen k q hq with ⟨h1, h2⟩ | ⟨j, h1, h2⟩
    · exact (hP k q h2).lt
    · have h3 : (w'.map Prod.fst)[j]? = some q.1 := by rw [List.getElem?_map, h2]; rfl
      rw [hfs, List.getElem?_map] at h3
      cases hw : w[j]? with
      | none => rw [hw] at h3; simp at h3
      | some q0 =>
        rw [hw] at h3
        obtain ⟨i, hi1, hi2⟩ := mapSome_at hC hw
        have := (hP i q0 hi2).lt
        have h4 : q0.1 = q.1 := Option.some.inj h3
        omega
  obtain ⟨t2, a1, b1⟩ := kk v w' x T'.heap (locs ++ L) hF (by rw [e1]; exact hPs.app hPx) (hDs.app hDx (fun i j a b ha hb hab => by have h1 := hlt i a ha; have h2 := hge j b hb; omega))
    ⟨Nat.le_trans hS.1 (by rw [e1]; exact hz), fun q h1 h2 => by rw [e1, hk q (Nat.lt_of_lt_of_le h1 hS.1) (fun z => h2 (hAA q z))]; exact hS.2.1 q h1 h2, fun q hq => by
      rcases List.mem_append.mp hq with h | h
      · exact hS.2.2 q h
      · exact hAA _ (hL q h)⟩ T' rfl X'
  exact ⟨t2, st t2 a1, b1⟩
theorem mk_pre {av : List Value} (hP : va_P G.1 vwCl W0 H) (hK : KK G s) (hD : va_D A W0) (is : List Nat) (hn : va_nd is = true) (hC : is.map (fun i => W0[i]?) = w.map some) : PreS s H (va_Pc av (fun U => (va_P G.1 vwCl w U.heap ∧ KK G U ∧ va_D (fun _ => True) w) ∧ U.heap.size = H.size)) av :=
  ⟨fun a U g mk q => ⟨q.1, ⟨q.2.1.1, q.2.1.2.1.call g mk a, q.2.1.2.2⟩, q.2.2⟩, fun U hU hW => ⟨rfl, ⟨by rw [hU]; exact hP.sub is (map_filterMap hC), hK.warm hW, (hD.sub is hn hC).weaken (fun _ _ _ _ => trivial)⟩, by rw [hU]⟩⟩
variable {y : MethodName} {bytes cc : ByteArray} {maxL nL n index : Nat} {ret : Option FieldType} {ws : List Cond} {Ts : List Cond} {own C host : String} {b : Addr} {As : List Value} {T : u_T} {N ci q0 : Nat} {fs : List Value}
theorem mkV (S : CallFix p m c cc nL s args Ts own) (hM : Mk l G y ws rm mc ms (.ref b :: As) w Φ) (cw : CallW R s args own C index y bytes maxL ret ws rm mc ms n) (hP : va_P G.1 vwCl W0 H) (hK : KK G s) (hD : va_D A W0) (hS : va_S A H0 H locs) (hA : ∀ q, H0.size ≤ q → A q) (is : List Nat) (hnd : va_nd is = true) (hC : is.map (fun i => W0[i]?) = w.map some)
    (hcl : vwCl[ci]? = some (C, T, N)) (he : W0[q0]? = some (b, .inr (ci, fs))) (hn : As.length = n) (hl : ls.size = nL) (hst : st0 = As.reverse ++ .ref b :: rest) (hr : (rest.map fun v => v.category).sum ≤ 8) (hdg : decode cc pc = .ok (.invokevirtual index, 3)) (hf : cells + mc ≤ R.cells ∧ slots + ms ≤ R.slots)
    (kk : ∀ (rv : Option Value) (w' x : va_W) (H1 : Heap) (locs1 : List Loc), Φ rv w' x → va_P G.1 vwCl (sAll W0 is w' ++ x) H1 → va_D A (sAll W0 is w' ++ x) → va_S A H0 H1 locs1 → W p l e R s m args below meth c H1 locs1 (cells + mc) (slots + ms) Q (F0 m (pc + 3) ls (rv.toList ++ rest))) : W p l e R s m args below meth c H locs cells slots Q (F0 m pc ls st0) :=
  cMk (va_runV (As := As) (rest := rest) S (hM H.size) cw ⟨(mk_pre (av := .ref b :: As) hP hK hD is hnd hC).1, va_recv hK.1 hP hcl he, (mk_pre (av := .ref b :: As) hP hK hD is hnd hC).2⟩ rfl hn hl hst (lv_room hr) hdg hf) hP hD hS hA is hC kk
theorem mkI (S : CallFix p m c cc nL s args Ts own) (hM : Mk l G y ws rm mc ms (.ref b :: As) w Φ) (cw : CallB R s args own index y bytes maxL none ws rm mc ms n ∧ y.name = "<init>" ∧ (Cond.instanceMethod y).before args s = true) (hP : va_P G.1 vwCl W0 H) (hK : KK G s) (hD : va_D A W0) (hS : va_S A H0 H locs) (hA : ∀ q, H0.size ≤ q → A q) (is : List Nat) (hnd : va_nd is = true) (hC : is.map (fun i => W0[i]?) = w.map some)
    (hn : As.length = n) (hl : ls.size = nL) (hst : st0 = As.reverse ++ .ref b :: rest) (hr : (rest.map fun v => v.category).sum ≤ 8) (hdg : decode cc pc = .ok (.invokespecial index, 3)) (hf : cells + mc ≤ R.cells ∧ slots + ms ≤ R.slots)
    (kk : ∀ (rv : Option Value) (w' x : va_W) (H1 : Heap) (locs1 : List Loc), Φ rv w' x → va_P G.1 vwCl (sAll W0 is w' ++ x) H1 → va_D A (sAll W0 is w' ++ x) → va_S A H0 H1 locs1 → W p l e R s m args below meth c H1 locs1 (cells + mc) (slots + ms) Q (F0 m (pc + 3) ls (rv.toList ++ rest))) : W p l e R s m args below meth c H locs cells slots Q (F0 m pc ls st0) :=
  cMk (va_runI (As := As) (rest := rest) S (hM H.size) cw (mk_pre (av := .ref b :: As) hP hK hD is hnd hC) rfl hn hl hst (lv_room hr) hdg hf) hP hD hS hA is hC kk
theorem mkIN (S : CallFix p m c cc nL s args Ts own) (hM : Mk l G y ws rm mc ms (.ref b :: As) w Φ) (cw : va_CN R s args own index y host bytes maxL none ws rm mc ms n ∧ y.name = "<init>" ∧ (Cond.instanceMethod y).before args s = true) (hP : va_P G.1 vwCl W0 H) (hK : KK G s) (hD : va_D A W0) (hS : va_S A H0 H locs) (hA : ∀ q, H0.size ≤ q → A q) (is : List Nat) (hnd : va_nd is = true) (hC : is.map (fun i => W0[i]?) = w.map some)
    (hn : As.length = n) (hl : ls.size = nL) (hst : st0 = As.reverse ++ .ref b :: rest) (hr : (rest.map fun v => v.category).sum ≤ 8) (hdg : decode cc pc = .ok (.invokespecial index, 3)) (hf : cells + mc ≤ R.cells ∧ slots + ms ≤ R.slots)
    (kk : ∀ (rv : Option Value) (w' x : va_W) (H1 : Heap) (locs1 : List Loc), Φ rv w' x → va_P G.1 vwCl (sAll W0 is w' ++ x) H1 → va_D A (sAll W0 is w' ++ x) → va_S A H0 H1 locs1 → W p l e R s m args below meth c H1 locs1 (cells + mc) (slots + ms) Q (F0 m (pc + 3) ls (rv.toList ++ rest))) : W p l e R s m args below meth c H locs cells slots Q (F0 m pc ls st0) :=
  cMk (va_runIN (As := As) (rest := rest) S (hM H.size) cw (mk_pre (av := .ref b :: As) hP hK hD is hnd hC) rfl hn hl hst (lv_room hr) hdg hf) hP hD hS hA is hC kk
end BCM
