/-! ===== new arrays of references, and a constructor that makes them ===== -/
def AO (U : State) : Prop := va_AO RX0 U ∧ va_AO RX1 U
theorem AO.moved {u U : State} (hvm : u.vm.Alike U.vm) (h : AO u) : AO U := ⟨va_AO.moved hvm h.1, va_AO.moved hvm h.2⟩
def MkA (l : Launch) (G : Gl) (y : MethodName) (ws : List Cond) (rm : Room) (mc ms : Nat) (av : List Value) (w : va_W) (Φ : Option Value → va_W → va_W → Prop) : Prop :=
  ∀ sz : Nat, Met l y ws rm (va_Pc av (fun U => ((va_P G.1 vwCl w U.heap ∧ KK G U ∧ va_D (fun _ => True) w) ∧ U.heap.size = sz) ∧ AO U)) (fun _ st oc t => ∃ (rv : Option Value) (w' x : va_W), oc = .returned rv ∧ Φ rv w' x ∧ w'.map Prod.fst = w.map Prod.fst ∧ va_P G.1 vwCl (w' ++ x) t.heap ∧ va_D (va_A w sz) (w' ++ x) ∧ va_F (va_A w sz) st t) mc ms (va_A w sz)
section BMA
variable {l : Launch} {G : Gl} {y : MethodName} {ws ws' : List Cond} {rm : Room} {mc ms : Nat} {av : List Value} {w : va_W} {Φ : Option Value → va_W → va_W → Prop} {cc : ByteArray} {maxL : Nat}
theorem MkA.ofV (hy : plainName y.cls = true) (hw : ws = .code y cc maxL none :: ws') (hlen : (lg_sl av).length ≤ maxL)
    (body : ∀ (p : Program) (e : Env) (s : State) (m : MethodId) (below : List Frame) (meth : Method) (c : Code) (Q : State → Prop) (A : Nat → Prop) (ls : Array Slot), CallFix p m c cc maxL s av.toArray ws y.cls → meth.name = y.name → va_P G.1 vwCl w s.heap → KK G s → va_D A w → va_S A s.heap s.heap [] → (∀ q, s.heap.size ≤ q → A q) → AO s → lv_has ls maxL (lv_args 0 av) →
      (∀ (pc : Nat) (ls : Array Slot) (H : Heap) (locs : List Loc) (w' x : va_W), Φ none w' x → w'.map Prod.fst = w.map Prod.fst → va_P G.1 vwCl (w' ++ x) H → va_D A (w' ++ x) → va_S A s.heap H locs → decode cc pc = .ok (.return_, 1) → W p l e rm s m av.toArray below meth c H locs mc ms Q (F0 m pc ls [])) →
      W p l e rm s m av.toArray below meth c s.heap [] 0 0 Q (F0 m 0 ls [])) : MkA l G y ws rm mc ms av w Φ := by
  intro sz
  refine Met.ofW (cc := cc) (maxL := maxL) (ret := none) hy hw ?_
  intro p e s m args below meth c s₁ B hml hv
  obtain ⟨rfl, ⟨⟨hP, hK, hD⟩, hz⟩, hO⟩ := hv
  have hlocks := B.notSynchronized
  have hl := lv_entry av (n := maxL) hlen
  rw [lg_entry_eq]
  exact body p e s m below meth c _ (va_A w sz) _ ⟨B.exec, B.bytes, hml, findClass_of_methodNamed B.named, atoms_spec (ws := ws) B.pre⟩ (name_of_methodNamed B.named B.method).1 hP hK hD.self va_S.rf (fun q h => Or.inr (by rw [← hz]; exact h)) hO hl (fun pc ls H locs w' x hF hf hP hD hS hd => W.vret B.exec B.bytes B.returns (fun t ht _ => ⟨_, w', x, rfl, hF, hf, by rw [ht]; exact hP, hD, hS.F ht⟩) hS.2.2 hd)
end BMA
section BCA
variable {p : Program} {l : Launch} {e : Env} {R : Room} {s : State} {m : MethodId} {args : Array Value} {below : List Frame} {meth : Method} {c : Code} {H : Heap} {locs : List Loc} {cells slots : Nat} {Q : State → Prop}
variable {cc : ByteArray} {pc : Nat} {ls : Array Slot} {rest st0 : List Value} {A : Nat → Prop} {H0 : Heap} {G : Gl} {W0 w : va_W} {rm : Room} {Φ : Option Value → va_W → va_W → Prop} {mc ms : Nat}
theorem mkA_pre {av : List Value} (hP : va_P G.1 vwCl W0 H) (hK : KK G s) (hO : AO s) (hD : va_D A W0) (is : List Nat) (hn : va_nd is = true) (hC : is.map (fun i => W0[i]?) = w.map some) : PreS s H (va_Pc av (fun U => ((va_P G.1 vwCl w U.heap ∧ KK G U ∧ va_D (fun _ => True) w) ∧ U.heap.size = H.size) ∧ AO U)) av :=
  ⟨fun a U g mk q => ⟨q.1, ⟨⟨q.2.1.1.1, q.2.1.1.2.1.call g mk a, q.2.1.1.2.2⟩, q.2.1.2⟩, AO.moved (u := U) (U := U.calling g mk a) (Vm.Alike.refl U.vm) q.2.2⟩, fun U hU hW => ⟨rfl, ⟨⟨by rw [hU]; exact hP.sub is (map_filterMap hC), hK.warm hW, (hD.sub is hn hC).weaken (fun _ _ _ _ => trivial)⟩, by rw [hU]⟩, hO.moved hW.alike⟩⟩
theorem n_newR (hexec : p.tables.exec = Jvm.exec) (hb : c.code = cc) {own : String} {index : Nat} (hown : s.vm.findClass own = some m.cls) (hclink : (Cond.classLink own index RX0).before args s = true) (hO : AO s) (hK : KK G s) (hP : va_P G.1 vwCl W0 H) (hD : va_D A W0) (hS : va_S A H0 H locs) (hA : ∀ q, H0.size ≤ q → A q) {N1 : Nat} (hN : N1 < 1000) (hcells : cells + 1 ≤ R.cells) (hslots : slots + N1 ≤ R.slots) (hdg : decode cc pc = .ok (.anewarray index, 3))
    (kk : ∀ (q : Nat) (H1 : Heap), va_P G.1 vwCl (W0 ++ [(q, aR G N1 (fun _ => none))]) H1 → va_D A (W0 ++ [(q, aR G N1 (fun _ => none))]) → va_S A H0 H1 locs → W p l e R s m args below meth c H1 locs (cells + 1) (slots + N1) Q (F0 m (pc + 3) ls (.ref q :: rest))) : W p l e R s m args below meth c H locs cells slots Q (F0 m pc ls (.int (nI N1) :: rest)) := by
  refine va_newq (N' := N1) hexec hb hown hclink hO.1 hK.1 hP hD hS hA (nI_pos (by omega)) (nI_clamp (by omega)) (by omega) hcells hslots hdg (fun q cA H1 hK1 hP1 hD1 hS1 => ?_)
  obtain ⟨_, _, _, _, _, h1⟩ := (hK.1.2 1 (G.2.2.1, .object RX0) rfl).2
  obtain ⟨_, _, _, _, _, h2⟩ := (hK1.2 3 (cA, .object RX0) rfl).2
  obtain rfl : G.2.2.1 = cA := Option.some.inj (h1.symm.trans h2)
  exact kk q H1 hP1 hD1 hS1
theorem n_newS (hexec : p.tables.exec = Jvm.exec) (hb : c.code = cc) {own : String} {index : Nat} (hown : s.vm.findClass own = some m.cls) (hclink : (Cond.classLink own index RX1).before args s = true) (hO : AO s) (hK : KK G s) (hP : va_P G.1 vwCl W0 H) (hD : va_D A W0) (hS : va_S A H0 H locs) (hA : ∀ q, H0.size ≤ q → A q) {N1 : Nat} (hN : N1 < 1000) (hcells : cells + 1 ≤ R.cells) (hslots : slots + N1 ≤ R.slots) (hdg : decode cc pc = .ok (.anewarray index, 3))
    (kk : ∀ (q : Nat) (H1 : Heap), va_P G.1 vwCl (W0 ++ [(q, aS G N1 (fun _ => none))]) H1 → va_D A (W0 ++ [(q, aS G N1 (fun _ => none))]) → va_S A H0 H1 locs → W p l e R s m args below meth c H1 locs (cells + 1) (slots + N1) Q (F0 m (pc + 3) ls (.ref q :: rest))) : W p l e R s m args below meth c H locs cells slots Q (F0 m pc ls (.int (nI N1) :: rest)) := by
  refine va_newq (N' := N1) hexec hb hown hclink hO.2 hK.1 hP hD hS hA (nI_pos (by omega)) (nI_clamp (by omega)) (by omega) hcells hslots hdg (fun q cA H1 hK1 hP1 hD1 hS1 => ?_)
  obtain ⟨_, _, _, _, _, h1⟩ := (hK.1.2 2 (G.2.2.2, .object RX1) rfl).2
  obtain ⟨_, _, _, _, _, h2⟩ := (hK1.2 3 (cA, .object RX1) rfl).2
  obtain rfl : G.2.2.2 = cA := Option.some.inj (h1.symm.trans h2)
  exact kk q H1 hP1 hD1 hS1
theorem n_astR (hexec : p.tables.exec = Jvm.exec) (hb : c.code = cc) (hK : KK G s) (hP : va_P G.1 vwCl W0 H) (hD : va_D A W0) (hS : va_S A H0 H locs) (q0 qk : Nat) {a n v : Nat} {vs : List Value} {f : Nat → Option Nat} (ha : W0[q0]? = some (a, aR G n f)) (hv : W0[qk]? = some (v, .inr (0, vs))) {k : Nat} (hk : k < n) (hn : n < 2 ^ 31) (hdg : decode cc pc = .ok (.aastore, 1))
    (kk : ∀ (H1 : Heap) (locs1 : List Loc), va_P G.1 vwCl (W0.set q0 (a, aR G n (va_up f k (some v)))) H1 → va_D A (W0.set q0 (a, aR G n (va_up f k (some v)))) → va_S A H0 H1 locs1 → W p l e R s m args below meth c H1 locs1 cells slots Q (F0 m (pc + 1) ls rest)) : W p l e R s m args below meth c H locs cells slots Q (F0 m pc ls (.ref v :: .int (nI k) :: .ref a :: rest)) :=
  va_astq (r := (RX0, TX0, 4)) hexec hb hK.1 hP hD hS q0 1 qk 0 ha rfl hv rfl (vp_in_nI hk hn) hdg (by rw [nI_clamp (Nat.lt_trans hk hn)]; exact kk)
theorem n_astS (hexec : p.tables.exec = Jvm.exec) (hb : c.code = cc) (hK : KK G s) (hP : va_P G.1 vwCl W0 H) (hD : va_D A W0) (hS : va_S A H0 H locs) (q0 qk : Nat) {a n v : Nat} {vs : List Value} {f : Nat → Option Nat} (ha : W0[q0]? = some (a, aS G n f)) (hv : W0[qk]? = some (v, .inr (1, vs))) {k : Nat} (hk : k < n) (hn : n < 2 ^ 31) (hdg : decode cc pc = .ok (.aastore, 1))
    (kk : ∀ (H1 : Heap) (locs1 : List Loc), va_P G.1 vwCl (W0.set q0 (a, aS G n (va_up f k (some v)))) H1 → va_D A (W0.set q0 (a, aS G n (va_up f k (some v)))) → va_S A H0 H1 locs1 → W p l e R s m args below meth c H1 locs1 cells slots Q (F0 m (pc + 1) ls rest)) : W p l e R s m args below meth c H locs cells slots Q (F0 m pc ls (.ref v :: .int (nI k) :: .ref a :: rest)) :=
  va_astq (r := (RX1, TX1, 3)) hexec hb hK.1 hP hD hS q0 2 qk 1 ha rfl hv rfl (vp_in_nI hk hn) hdg (by rw [nI_clamp (Nat.lt_trans hk hn)]; exact kk)
end BCA
