/-! ===== contracts whose end is only told in part ===== -/
def WtE (l : Launch) (G : Gl) (y : MethodName) (ws : List Cond) (rm : Room) (av : List Value) (w : va_W) (Φ : Option Value → va_W → Prop) : Prop :=
  Met l y ws rm (va_Pc av (fun U => va_P G.1 vwCl w U.heap ∧ KK G U ∧ va_D (fun _ => True) w)) (fun _ st oc t => ∃ (rv : Option Value) (w' : va_W), oc = .returned rv ∧ Φ rv w' ∧ w'.map Prod.fst = w.map Prod.fst ∧ va_P G.1 vwCl w' t.heap ∧ va_F (Ow w) st t) 0 0 (Ow w)
section BME
variable {l : Launch} {G : Gl} {y : MethodName} {ws ws' : List Cond} {rm : Room} {av : List Value} {w : va_W} {Φ : Option Value → va_W → Prop} {cc : ByteArray} {maxL : Nat}
theorem WtE.ofI (hy : plainName y.cls = true) (hw : ws = .code y cc maxL (some .int) :: ws') (hlen : (lg_sl av).length ≤ maxL)
    (body : ∀ (p : Program) (e : Env) (s : State) (m : MethodId) (below : List Frame) (meth : Method) (c : Code) (Q : State → Prop) (A : Nat → Prop) (ls : Array Slot), CallFix p m c cc maxL s av.toArray ws y.cls → va_P G.1 vwCl w s.heap → KK G s → va_D A w → va_S A s.heap s.heap [] → lv_has ls maxL (lv_args 0 av) →
      (∀ (pc : Nat) (ls : Array Slot) (H : Heap) (locs : List Loc) (v : Int32) (w' : va_W), Φ (some (.int v)) w' → w'.map Prod.fst = w.map Prod.fst → va_P G.1 vwCl w' H → va_S A s.heap H locs → decode cc pc = .ok (.ireturn, 1) → W p l e rm s m av.toArray below meth c H locs 0 0 Q (F0 m pc ls [.int v])) →
      W p l e rm s m av.toArray below meth c s.heap [] 0 0 Q (F0 m 0 ls [])) : WtE l G y ws rm av w Φ := by
  refine Met.ofW (cc := cc) (maxL := maxL) (ret := some .int) hy hw ?_
  intro p e s m args below meth c s₁ B hml hv
  obtain ⟨rfl, hP, hK, hD⟩ := hv
  have hlocks := B.notSynchronized
  have hl := lv_entry av (n := maxL) hlen
  rw [lg_entry_eq]
  exact body p e s m below meth c _ (Ow w) _ ⟨B.exec, B.bytes, hml, findClass_of_methodNamed B.named, atoms_spec (ws := ws) B.pre⟩ hP hK (Ow.D hD) va_S.rf hl (fun pc ls H locs v w' hF hf hP hS hd => W.iret B.exec B.bytes B.returns (fun t ht _ => ⟨_, w', rfl, hF, hf, by rw [ht]; exact hP, hS.F ht⟩) hS.2.2 hd)
theorem WtE.ofZ (hy : plainName y.cls = true) (hw : ws = .code y cc maxL (some .boolean) :: ws') (hlen : (lg_sl av).length ≤ maxL)
    (body : ∀ (p : Program) (e : Env) (s : State) (m : MethodId) (below : List Frame) (meth : Method) (c : Code) (Q : State → Prop) (A : Nat → Prop) (ls : Array Slot), CallFix p m c cc maxL s av.toArray ws y.cls → va_P G.1 vwCl w s.heap → KK G s → va_D A w → va_S A s.heap s.heap [] → lv_has ls maxL (lv_args 0 av) →
      (∀ (pc : Nat) (ls : Array Slot) (H : Heap) (locs : List Loc) (v : Int32) (P : Prop) (w' : va_W), v = bI P → Φ (some (.int (bI P))) w' → w'.map Prod.fst = w.map Prod.fst → va_P G.1 vwCl w' H → va_S A s.heap H locs → decode cc pc = .ok (.ireturn, 1) → W p l e rm s m av.toArray below meth c H locs 0 0 Q (F0 m pc ls [.int v])) →
      W p l e rm s m av.toArray below meth c s.heap [] 0 0 Q (F0 m 0 ls [])) : WtE l G y ws rm av w Φ := by
  refine Met.ofW (cc := cc) (maxL := maxL) (ret := some .boolean) hy hw ?_
  intro p e s m args below meth c s₁ B hml hv
  obtain ⟨rfl, hP, hK, hD⟩ := hv
  have hlocks := B.notSynchronized
  have hl := lv_entry av (n := maxL) hlen
  rw [lg_entry_eq]
  exact body p e s m below meth c _ (Ow w) _ ⟨B.exec, B.bytes, hml, findClass_of_methodNamed B.named, atoms_spec (ws := ws) B.pre⟩ hP hK (Ow.D hD) va_S.rf hl (fun pc ls H locs v P w' hv hF hf hP hS hd => by subst hv; exact W.zret B.exec B.bytes B.returns (bI_nar P) (fun t ht _ => ⟨_, w', rfl, hF, hf, by rw [ht]; exact hP, hS.F ht⟩) hS.2.2 hd)
end BME
section BCE
variable {p : Program} {l : Launch} {e : Env} {R : Room} {s : State} {m : MethodId} {args : Array Value} {below : List Frame} {meth : Method} {c : Code} {H : Heap} {locs : List Loc} {cells slots : Nat} {Q : State → Prop}
variable {pc : Nat} {ls : Array Slot} {rest st0 : List Value} {A : Nat → Prop} {H0 : Heap} {G : Gl} {W0 w : va_W} {rm : Room} {Φ : Option Value → va_W → Prop}
variable {y : MethodName} {bytes cc : ByteArray} {maxL nL n index : Nat} {ret : Option FieldType} {ws : List Cond} {Ts : List Cond} {own C host : String} {b : Addr} {As : List Value} {T : u_T} {N ci q0 : Nat} {fs : List Value}
theorem weV (S : CallFix p m c cc nL s args Ts own) (hM : WtE l G y ws rm (.ref b :: As) w Φ) (cw : CallW R s args own C index y bytes maxL ret ws rm 0 0 n) (hP : va_P G.1 vwCl W0 H) (hK : KK G s) (hD : va_D A W0) (hS : va_S A H0 H locs) (is : List Nat) (hnd : va_nd is = true) (hC : is.map (fun i => W0[i]?) = w.map some)
    (hcl : vwCl[ci]? = some (C, T, N)) (he : W0[q0]? = some (b, .inr (ci, fs))) (hn : As.length = n) (hl : ls.size = nL) (hst : st0 = As.reverse ++ .ref b :: rest) (hr : (rest.map fun v => v.category).sum ≤ 8) (hdg : decode cc pc = .ok (.invokevirtual index, 3)) (hf : cells + 0 ≤ R.cells ∧ slots + 0 ≤ R.slots)
    (kk : ∀ (rv : Option Value) (w' : va_W) (H1 : Heap) (locs1 : List Loc), Φ rv w' → va_P G.1 vwCl (sAll W0 is w') H1 → va_D A (sAll W0 is w') → va_S A H0 H1 locs1 → W p l e R s m args below meth c H1 locs1 cells slots Q (F0 m (pc + 3) ls (rv.toList ++ rest))) : W p l e R s m args below meth c H locs cells slots Q (F0 m pc ls st0) := by
  have hr := va_runV (As := As) (rest := rest) (locs := locs) S hM cw ⟨(wt_pre (av := .ref b :: As) hP hK hD is hnd hC).1, va_recv hK.1 hP hcl he, (wt_pre (av := .ref b :: As) hP hK hD is hnd hC).2⟩ (g := F0 m pc ls st0) (e := e) (below := below) (meth := meth) rfl hn hl hst (lv_room hr) hdg hf
  intro T hT X
  obtain ⟨v, st₀, t, T', L, h0, X', hL, e1, e2, ⟨rv, w', hv, hF, hfs, hP1, hz, hk⟩, st⟩ := hr T hT X
  cases hv
  rw [h0] at hz hk
  have hO := Ow.sub hD hC
  obtain ⟨t2, a1, b1⟩ := kk v w' T'.heap (locs ++ L) hF (sAll_P hP hD hC hfs (fun q h1 h2 => by rw [e1]; exact hk q h1 h2) (by rw [e1]; exact hP1)) (sAll_D hD hC hfs)
    ⟨Nat.le_trans hS.1 (by rw [e1]; exact hz), fun q h1 h2 => by rw [e1, hk q (Nat.lt_of_lt_of_le h1 hS.1) (fun z => h2 (hO q z))]; exact hS.2.1 q h1 h2, fun q hq => by
      rcases List.mem_append.mp hq with h | h
      · exact hS.2.2 q h
      · exact hO _ (hL q h)⟩ T' rfl X'
  exact ⟨t2, st t2 a1, b1⟩
end BCE
