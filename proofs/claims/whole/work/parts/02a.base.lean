/-! ===== the base layer: if by any proposition, the world's words, two forms of contract ===== -/
noncomputable def iF {α : Type} (P : Prop) (a b : α) : α := @ite α P (Classical.propDecidable P) a b
theorem iF_t {α : Type} {P : Prop} {a b : α} (h : P) : iF P a b = a := by unfold iF; exact if_pos h
theorem iF_f {α : Type} {P : Prop} {a b : α} (h : ¬ P) : iF P a b = b := by unfold iF; exact if_neg h
noncomputable def bI (P : Prop) : Int32 := iF P 1 0
theorem bI_t {P : Prop} (h : P) : bI P = 1 := iF_t h
theorem bI_f {P : Prop} (h : ¬ P) : bI P = 0 := iF_f h
theorem bI_nar (P : Prop) : narrow .boolean (.int (bI P)) = .int (bI P) := by
  by_cases h : P
  · rw [bI_t h]; rfl
  · rw [bI_f h]; rfl
def nestW : List Cond := [.fieldLinkNest "SolsticeBoys" 82 "SolsticeBoys$Town" "kindOf" "[I" "SolsticeBoys", .fieldLinkNest "SolsticeBoys$TownText" 58 "SolsticeBoys$Town" "kindOf" "[I" "SolsticeBoys", .fieldLinkNest "SolsticeBoys" 86 "SolsticeBoys$Town" "boundTo" "[I" "SolsticeBoys", .fieldLinkNest "SolsticeBoys$TownText" 61 "SolsticeBoys$Town" "boundTo" "[I" "SolsticeBoys", .fieldLinkNest "SolsticeBoys$TownText" 48 "SolsticeBoys$Town" "masters" "I" "SolsticeBoys", .fieldLinkNest "SolsticeBoys" 119 "SolsticeBoys$Town" "masters" "I" "SolsticeBoys", .fieldLinkNest "SolsticeBoys" 76 "SolsticeBoys$Town" "boys" "I" "SolsticeBoys", .fieldLinkNest "SolsticeBoys$TownText" 55 "SolsticeBoys$Town" "boys" "I" "SolsticeBoys", .fieldLinkNest "SolsticeBoys$TownText" 22 "SolsticeBoys$Sheet" "cells" "[I" "SolsticeBoys", .fieldLinkNest "SolsticeBoys" 139 "SolsticeBoys$Sheet" "cells" "[I" "SolsticeBoys", .fieldLinkNest "SolsticeBoys" 183 "SolsticeBoys$Sheet" "lane" "I" "SolsticeBoys", .methodLinkNest "SolsticeBoys" 11 yX2_init "SolsticeBoys", .methodLinkNest "SolsticeBoys" 43 yX0_init "SolsticeBoys", .methodLinkNest "SolsticeBoys" 44 yX1_init "SolsticeBoys", .methodLinkNest "SolsticeBoys$Town" 49 yX4_learning "SolsticeBoys"]
def NN (U : State) : Prop := ∀ w ∈ nestW, va_Nw w U
theorem NN.warm {s U : State} (hW : s.WarmedH U.vm) (h : NN s) : NN U := by
  intro w hw
  have h0 := h w hw
  simp only [nestW, List.mem_cons, List.not_mem_nil, or_false] at hw
  rcases hw with rfl | rfl | rfl | rfl | rfl | rfl | rfl | rfl | rfl | rfl | rfl | rfl | rfl | rfl | rfl <;> first | exact va_Nw.warmF hW h0 | exact va_Nw.warmM hW h0
theorem NN.same {u U : State} (hvm : u.vm = U.vm) (h : NN u) : NN U := by
  intro w hw
  have h0 := h w hw
  refine va_Nw.same ?_ hvm h0
  simp only [nestW, List.mem_cons, List.not_mem_nil, or_false] at hw
  rcases hw with rfl | rfl | rfl | rfl | rfl | rfl | rfl | rfl | rfl | rfl | rfl | rfl | rfl | rfl | rfl <;> rfl
abbrev Gl : Type := va_G × ClassId × ClassId × ClassId
abbrev tyG (G : Gl) : List (ClassId × FieldType) := [(G.2.1, .int), (G.2.2.1, .object RX0), (G.2.2.2, .object RX1)]
def KK (G : Gl) (U : State) : Prop := va_K G.1 vwCl (tyG G) U ∧ NN U
theorem KK.warm {G : Gl} {s U : State} (hW : s.WarmedH U.vm) (h : KK G s) : KK G U := ⟨va_K.moved hW.alike h.1, NN.warm hW h.2⟩
theorem KK.call {G : Gl} {U : State} (g : JFrame) (mk : MethodId) (a : Array Value) (h : KK G U) : KK G (U.calling g mk a) := ⟨va_K.moved (u := U) (U := U.calling g mk a) (Vm.Alike.refl U.vm) h.1, NN.same (u := U) (U := U.calling g mk a) rfl h.2⟩
abbrev aI (G : Gl) (n : Nat) (f : Nat → Int32) : va_E := .inl (G.2.1, n, .inl f)
abbrev aR (G : Gl) (n : Nat) (f : Nat → Option Nat) : va_E := .inl (G.2.2.1, n, .inr (.inr (.inr (.inr f))))
abbrev aS (G : Gl) (n : Nat) (f : Nat → Option Nat) : va_E := .inl (G.2.2.2, n, .inr (.inr (.inr (.inr f))))
def Ow (w : va_W) : Nat → Prop := fun q => q ∈ w.map Prod.fst
/-- a method that only reads -/
def Rd (l : Launch) (G : Gl) (y : MethodName) (ws : List Cond) (rm : Room) (av : List Value) (w : va_W) (rv : Option Value) : Prop :=
  Met l y ws rm (va_Pc av (fun U => va_P G.1 vwCl w U.heap ∧ KK G U)) (fun _ st oc t => oc = .returned rv ∧ t.heap = st.heap) 0 0 (fun _ => False)
/-- a method that writes in the cells w alone, and makes none -/
def Wt (l : Launch) (G : Gl) (y : MethodName) (ws : List Cond) (rm : Room) (av : List Value) (w w' : va_W) (rv : Option Value) : Prop :=
  Met l y ws rm (va_Pc av (fun U => va_P G.1 vwCl w U.heap ∧ KK G U ∧ va_D (fun _ => True) w)) (fun _ st oc t => oc = .returned rv ∧ va_P G.1 vwCl w' t.heap ∧ va_F (Ow w) st t) 0 0 (Ow w)
theorem Ow.D {w : va_W} {A : Nat → Prop} (h : va_D A w) : va_D (Ow w) w := ⟨h.1, fun k q hk => List.mem_map.mpr ⟨q, List.mem_of_getElem? hk, rfl⟩⟩
section BMK
variable {l : Launch} {G : Gl} {y : MethodName} {ws ws' : List Cond} {rm : Room} {av : List Value} {w w' : va_W} {cc : ByteArray} {maxL : Nat}
theorem Rd.ofI {r : Int32} (hy : plainName y.cls = true) (hw : ws = .code y cc maxL (some .int) :: ws') (hlen : (lg_sl av).length ≤ maxL)
    (body : ∀ (p : Program) (e : Env) (s : State) (m : MethodId) (below : List Frame) (meth : Method) (c : Code) (Q : State → Prop) (ls : Array Slot), CallFix p m c cc maxL s av.toArray ws y.cls → va_P G.1 vwCl w s.heap → KK G s → lv_has ls maxL (lv_args 0 av) →
      (∀ (pc : Nat) (ls : Array Slot) (v : Int32), v = r → decode cc pc = .ok (.ireturn, 1) → W p l e rm s m av.toArray below meth c s.heap [] 0 0 Q (F0 m pc ls [.int v])) →
      W p l e rm s m av.toArray below meth c s.heap [] 0 0 Q (F0 m 0 ls [])) : Rd l G y ws rm av w (some (.int r)) := by
  refine Met.ofW (cc := cc) (maxL := maxL) (ret := some .int) hy hw ?_
  intro p e s m args below meth c s₁ B hml hv
  obtain ⟨rfl, hP, hK⟩ := hv
  have hlocks := B.notSynchronized
  have hl := lv_entry av (n := maxL) hlen
  rw [lg_entry_eq]
  exact body p e s m below meth c _ _ ⟨B.exec, B.bytes, hml, findClass_of_methodNamed B.named, atoms_spec (ws := ws) B.pre⟩ hP hK hl (fun pc ls v hv hd => by subst hv; exact W.iret B.exec B.bytes B.returns (fun t ht _ => ⟨rfl, ht⟩) (fun _ h => by cases h) hd)
theorem Rd.ofL {r : Int64} (hy : plainName y.cls = true) (hw : ws = .code y cc maxL (some .long) :: ws') (hlen : (lg_sl av).length ≤ maxL)
    (body : ∀ (p : Program) (e : Env) (s : State) (m : MethodId) (below : List Frame) (meth : Method) (c : Code) (Q : State → Prop) (ls : Array Slot), CallFix p m c cc maxL s av.toArray ws y.cls → va_P G.1 vwCl w s.heap → KK G s → lv_has ls maxL (lv_args 0 av) →
      (∀ (pc : Nat) (ls : Array Slot) (v : Int64), v = r → decode cc pc = .ok (.lreturn, 1) → W p l e rm s m av.toArray below meth c s.heap [] 0 0 Q (F0 m pc ls [.long v])) →
      W p l e rm s m av.toArray below meth c s.heap [] 0 0 Q (F0 m 0 ls [])) : Rd l G y ws rm av w (some (.long r)) := by
  refine Met.ofW (cc := cc) (maxL := maxL) (ret := some .long) hy hw ?_
  intro p e s m args below meth c s₁ B hml hv
  obtain ⟨rfl, hP, hK⟩ := hv
  have hlocks := B.notSynchronized
  have hl := lv_entry av (n := maxL) hlen
  rw [lg_entry_eq]
  exact body p e s m below meth c _ _ ⟨B.exec, B.bytes, hml, findClass_of_methodNamed B.named, atoms_spec (ws := ws) B.pre⟩ hP hK hl (fun pc ls v hv hd => by subst hv; exact W.lret B.exec B.bytes B.returns (fun t ht _ => ⟨rfl, ht⟩) (fun _ h => by cases h) hd)
theorem Rd.ofZ {P : Prop} (hy : plainName y.cls = true) (hw : ws = .code y cc maxL (some .boolean) :: ws') (hlen : (lg_sl av).length ≤ maxL)
    (body : ∀ (p : Program) (e : Env) (s : State) (m : MethodId) (below : List Frame) (meth : Method) (c : Code) (Q : State → Prop) (ls : Array Slot), CallFix p m c cc maxL s av.toArray ws y.cls → va_P G.1 vwCl w s.heap → KK G s → lv_has ls maxL (lv_args 0 av) →
      (∀ (pc : Nat) (ls : Array Slot) (v : Int32), v = bI P → decode cc pc = .ok (.ireturn, 1) → W p l e rm s m av.toArray below meth c s.heap [] 0 0 Q (F0 m pc ls [.int v])) →
      W p l e rm s m av.toArray below meth c s.heap [] 0 0 Q (F0 m 0 ls [])) : Rd l G y ws rm av w (some (.int (bI P))) := by
  refine Met.ofW (cc := cc) (maxL := maxL) (ret := some .boolean) hy hw ?_
  intro p e s m args below meth c s₁ B hml hv
  obtain ⟨rfl, hP, hK⟩ := hv
  have hlocks := B.notSynchronized
  have hl := lv_entry av (n := maxL) hlen
  rw [lg_entry_eq]
  exact body p e s m below meth c _ _ ⟨B.exec, B.bytes, hml, findClass_of_methodNamed B.named, atoms_spec (ws := ws) B.pre⟩ hP hK hl (fun pc ls v hv hd => by subst hv; exact W.zret B.exec B.bytes B.returns (bI_nar P) (fun t ht _ => ⟨rfl, ht⟩) (fun _ h => by cases h) hd)
theorem Wt.ofI {r : Int32} (hy : plainName y.cls = true) (hw : ws = .code y cc maxL (some .int) :: ws') (hlen : (lg_sl av).length ≤ maxL)
    (body : ∀ (p : Program) (e : Env) (s : State) (m : MethodId) (below : List Frame) (meth : Method) (c : Code) (Q : State → Prop) (A : Nat → Prop) (ls : Array Slot), CallFix p m c cc maxL s av.toArray ws y.cls → va_P G.1 vwCl w s.heap → KK G s → va_D A w → va_S A s.heap s.heap [] → lv_has ls maxL (lv_args 0 av) →
      (∀ (pc : Nat) (ls : Array Slot) (H : Heap) (locs : List Loc) (v : Int32), v = r → va_P G.1 vwCl w' H → va_S A s.heap H locs → decode cc pc = .ok (.ireturn, 1) → W p l e rm s m av.toArray below meth c H locs 0 0 Q (F0 m pc ls [.int v])) →
      W p l e rm s m av.toArray below meth c s.heap [] 0 0 Q (F0 m 0 ls [])) : Wt l G y ws rm av w w' (some (.int r)) := by
  refine Met.ofW (cc := cc) (maxL := maxL) (ret := some .int) hy hw ?_
  intro p e s m args below meth c s₁ B hml hv
  obtain ⟨rfl, hP, hK, hD⟩ := hv
  have hlocks := B.notSynchronized
  have hl := lv_entry av (n := maxL) hlen
  rw [lg_entry_eq]
  exact body p e s m below meth c _ (Ow w) _ ⟨B.exec, B.bytes, hml, findClass_of_methodNamed B.named, atoms_spec (ws := ws) B.pre⟩ hP hK (Ow.D hD) va_S.rf hl (fun pc ls H locs v hv hP hS hd => by subst hv; exact W.iret B.exec B.bytes B.returns (fun t ht _ => ⟨rfl, by rw [ht]; exact hP, hS.F ht⟩) hS.2.2 hd)
theorem Wt.ofL {r : Int64} (hy : plainName y.cls = true) (hw : ws = .code y cc maxL (some .long) :: ws') (hlen : (lg_sl av).length ≤ maxL)
    (body : ∀ (p : Program) (e : Env) (s : State) (m : MethodId) (below : List Frame) (meth : Method) (c : Code) (Q : State → Prop) (A : Nat → Prop) (ls : Array Slot), CallFix p m c cc maxL s av.toArray ws y.cls → va_P G.1 vwCl w s.heap → KK G s → va_D A w → va_S A s.heap s.heap [] → lv_has ls maxL (lv_args 0 av) →
      (∀ (pc : Nat) (ls : Array Slot) (H : Heap) (locs : List Loc) (v : Int64), v = r → va_P G.1 vwCl w' H → va_S A s.heap H locs → decode cc pc = .ok (.lreturn, 1) → W p l e rm s m av.toArray below meth c H locs 0 0 Q (F0 m pc ls [.long v])) →
      W p l e rm s m av.toArray below meth c s.heap [] 0 0 Q (F0 m 0 ls [])) : Wt l G y ws rm av w w' (some (.long r)) := by
  refine Met.ofW (cc := cc) (maxL := maxL) (ret := some .long) hy hw ?_
  intro p e s m args below meth c s₁ B hml hv
  obtain ⟨rfl, hP, hK, hD⟩ := hv
  have hlocks := B.notSynchronized
  have hl := lv_entry av (n := maxL) hlen
  rw [lg_entry_eq]
  exact body p e s m below meth c _ (Ow w) _ ⟨B.exec, B.bytes, hml, findClass_of_methodNamed B.named, atoms_spec (ws := ws) B.pre⟩ hP hK (Ow.D hD) va_S.rf hl (fun pc ls H locs v hv hP hS hd => by subst hv; exact W.lret B.exec B.bytes B.returns (fun t ht _ => ⟨rfl, by rw [ht]; exact hP, hS.F ht⟩) hS.2.2 hd)
theorem Wt.ofZ {P : Prop} (hy : plainName y.cls = true) (hw : ws = .code y cc maxL (some .boolean) :: ws') (hlen : (lg_sl av).length ≤ maxL)
    (body : ∀ (p : Program) (e : Env) (s : State) (m : MethodId) (below : List Frame) (meth : Method) (c : Code) (Q : State → Prop) (A : Nat → Prop) (ls : Array Slot), CallFix p m c cc maxL s av.toArray ws y.cls → va_P G.1 vwCl w s.heap → KK G s → va_D A w → va_S A s.heap s.heap [] → lv_has ls maxL (lv_args 0 av) →
      (∀ (pc : Nat) (ls : Array Slot) (H : Heap) (locs : List Loc) (v : Int32), v = bI P → va_P G.1 vwCl w' H → va_S A s.heap H locs → decode cc pc = .ok (.ireturn, 1) → W p l e rm s m av.toArray below meth c H locs 0 0 Q (F0 m pc ls [.int v])) →
      W p l e rm s m av.toArray below meth c s.heap [] 0 0 Q (F0 m 0 ls [])) : Wt l G y ws rm av w w' (some (.int (bI P))) := by
  refine Met.ofW (cc := cc) (maxL := maxL) (ret := some .boolean) hy hw ?_
  intro p e s m args below meth c s₁ B hml hv
  obtain ⟨rfl, hP, hK, hD⟩ := hv
  have hlocks := B.notSynchronized
  have hl := lv_entry av (n := maxL) hlen
  rw [lg_entry_eq]
  exact body p e s m below meth c _ (Ow w) _ ⟨B.exec, B.bytes, hml, findClass_of_methodNamed B.named, atoms_spec (ws := ws) B.pre⟩ hP hK (Ow.D hD) va_S.rf hl (fun pc ls H locs v hv hP hS hd => by subst hv; exact W.zret B.exec B.bytes B.returns (bI_nar P) (fun t ht _ => ⟨rfl, by rw [ht]; exact hP, hS.F ht⟩) hS.2.2 hd)
theorem Wt.ofV (hy : plainName y.cls = true) (hw : ws = .code y cc maxL none :: ws') (hlen : (lg_sl av).length ≤ maxL)
    (body : ∀ (p : Program) (e : Env) (s : State) (m : MethodId) (below : List Frame) (meth : Method) (c : Code) (Q : State → Prop) (A : Nat → Prop) (ls : Array Slot), CallFix p m c cc maxL s av.toArray ws y.cls → meth.name = y.name → va_P G.1 vwCl w s.heap → KK G s → va_D A w → va_S A s.heap s.heap [] → lv_has ls maxL (lv_args 0 av) →
      (∀ (pc : Nat) (ls : Array Slot) (H : Heap) (locs : List Loc), va_P G.1 vwCl w' H → va_S A s.heap H locs → decode cc pc = .ok (.return_, 1) → W p l e rm s m av.toArray below meth c H locs 0 0 Q (F0 m pc ls [])) →
      W p l e rm s m av.toArray below meth c s.heap [] 0 0 Q (F0 m 0 ls [])) : Wt l G y ws rm av w w' none := by
  refine Met.ofW (cc := cc) (maxL := maxL) (ret := none) hy hw ?_
  intro p e s m args below meth c s₁ B hml hv
  obtain ⟨rfl, hP, hK, hD⟩ := hv
  have hlocks := B.notSynchronized
  have hl := lv_entry av (n := maxL) hlen
  rw [lg_entry_eq]
  exact body p e s m below meth c _ (Ow w) _ ⟨B.exec, B.bytes, hml, findClass_of_methodNamed B.named, atoms_spec (ws := ws) B.pre⟩ (name_of_methodNamed B.named B.method).1 hP hK (Ow.D hD) va_S.rf hl (fun pc ls H locs hP hS hd => W.vret B.exec B.bytes B.returns (fun t ht _ => ⟨rfl, by rw [ht]; exact hP, hS.F ht⟩) hS.2.2 hd)
end BMK
/-! ===== what comes back from a call takes the place of what went ===== -/
def sAll : va_W → List Nat → va_W → va_W
  | W, i :: is, c :: cs => sAll (W.set i c) is cs
  | W, _, _ => W
theorem sAll_get : ∀ (is : List Nat) (W cs : va_W), is.length = cs.length → ∀ (k : Nat) (q : Nat × va_E), (sAll W is cs)[k]? = some q → (k ∉ is ∧ W[k]? = some q) ∨ (∃ j : Nat, is[j]? = some k ∧ cs[j]? = some q)
  | [], W, [], _, k, q, h => Or.inl ⟨List.not_mem_nil, h⟩
  | [], _, _ :: _, hl, _, _, _ => absurd hl (by simp)
  | _ :: _, _, [], hl, _, _, _ => absurd hl (by simp)
  | i :: is, W, c :: cs, hl, k, q, h => by
    have h2 := sAll_get is (W.set i c) cs (Nat.succ.inj hl) k q h
    rcases h2 with ⟨h3, h4⟩ | ⟨j, h3, h4⟩
    · by_cases hk : k = i
      · subst hk
        have hlt : k < (W.set k c).length := (List.getElem?_eq_some_iff.mp h4).1
        rw [List.length_set] at hlt
        rw [List.getElem?_set_self hlt] at h4
        exact Or.inr ⟨0, rfl, h4⟩
      · rw [List.getElem?_set_ne (Ne.symm hk)] at h4
        exact Or.inl ⟨fun hm => (List.mem_cons.mp hm).elim hk h3, h4⟩
    · exact Or.inr ⟨j + 1, h3, h4⟩
theorem mapSome_at {W w : va_W} {is : List Nat} (hC : is.map (fun i => W[i]?) = w.map some) {j : Nat} {q : Nat × va_E} (h : w[j]? = some q) : ∃ i : Nat, is[j]? = some i ∧ W[i]? = some q := by
  have h1 : (w.map some)[j]? = some (some q) := by rw [List.getElem?_map, h]; rfl
  rw [← hC, List.getElem?_map] at h1
  cases hi : is[j]? with
  | none => rw [hi] at h1; simp at h1
  | some i => rw [hi] at h1; exact ⟨i, rfl, Option.some.inj h1⟩
theorem sAll_P {D : va_G} {cl : List vw_C} {A : Nat → Prop} {W w w' : va_W} {is : List Nat} {H H1 : Heap} (hP : va_P D cl W H) (hD : va_D A W) (hC : is.map (fun i => W[i]?) = w.map some) (hfs : w'.map Prod.fst = w.map Prod.fst) (hk : ∀ q : Nat, q < H.size → ¬ Ow w q → H1[q]? = H[q]?) (hP1 : va_P D cl w' H1) : va_P D cl (sAll W is w') H1 := by
  have hlen : is.length = w'.length := by
    have h1 := congrArg List.length hC
    have h2 := congrArg List.length hfs
    simp only [List.length_map] at h1 h2
    omega
  intro k q hq
  rcases sAll_get is W w' hlen k q hq with ⟨h1, h2⟩ | ⟨j, h1, h2⟩
  · refine (hP k q h2).kept (hk q.1 (hP k q h2).lt (fun ho => ?_))
    obtain ⟨q', hm, he⟩ := List.mem_map.mp ho
    obtain ⟨j, hj⟩ := List.getElem?_of_mem hm
    obtain ⟨i, hi1, hi2⟩ := mapSome_at hC hj
    have := hD.1 k i q q' h2 hi2 he.symm
    subst this
    exact h1 (List.mem_of_getElem? hi1)
  · exact hP1 j q h2
theorem sAll_D {A : Nat → Prop} {W w w' : va_W} {is : List Nat} (hD : va_D A W) (hC : is.map (fun i => W[i]?) = w.map some) (hfs : w'.map Prod.fst = w.map Prod.fst) : va_D A (sAll W is w') := by
  have hlen : is.length = w'.length := by
    have h1 := congrArg List.length hC
    have h2 := congrArg List.length hfs
    simp only [List.length_map] at h1 h2
    omega
  have key : ∀ (k : Nat) (q : Nat × va_E), (sAll W is w')[k]? = some q → ∃ q0, W[k]? = some q0 ∧ q0.1 = q.1 := by
    intro k q hq
    rcases sAll_get is W w' hlen k q hq with ⟨h1, h2⟩ | ⟨j, h1, h2⟩
    · exact ⟨q, h2, rfl⟩
    · have h3 : (w'.map Prod.fst)[j]? = some q.1 := by rw [List.getElem?_map, h2]; rfl
      rw [hfs, List.getElem?_map] at h3
      cases hw : w[j]? with
      | none => rw [hw] at h3; simp at h3
      | some q0 =>
        rw [hw] at h3
        obtain ⟨i, hi1, hi2⟩ := mapSome_at hC hw
        rw [h1] at hi1
        cases hi1
        exact ⟨q0, hi2, Option.some.inj h3⟩
  refine ⟨fun i j p q hp hq he => ?_, fun k q hq => ?_⟩
  · obtain ⟨p0, a1, a2⟩ := key i p hp
    obtain ⟨q0, b1, b2⟩ := key j q hq
    exact hD.1 i j p0 q0 a1 b1 (by rw [a2, b2, he])
  · obtain ⟨q0, a1, a2⟩ := key k q hq
    rw [← a2]
    exact hD.2 k q0 a1
theorem Ow.sub {A : Nat → Prop} {W w : va_W} {is : List Nat} (hD : va_D A W) (hC : is.map (fun i => W[i]?) = w.map some) : ∀ q, Ow w q → A q := by
  intro q ho
  obtain ⟨q', hm, he⟩ := List.mem_map.mp ho
  obtain ⟨j, hj⟩ := List.getElem?_of_mem hm
  obtain ⟨i, hi1, hi2⟩ := mapSome_at hC hj
  have := hD.2 i q' hi2
  rw [he] at this
  exact this
theorem map_filterMap {W w : va_W} {is : List Nat} (hC : is.map (fun i => W[i]?) = w.map some) : is.filterMap (fun i => W[i]?) = w := by
  have : is.filterMap (fun i => W[i]?) = (is.map (fun i => W[i]?)).filterMap id := by rw [List.filterMap_map]; rfl
  rw [this, hC, List.filterMap_map]
  simp
section BCL
variable {p : Program} {l : Launch} {e : Env} {R : Room} {s : State} {m : MethodId} {args : Array Value} {below : List Frame} {meth : Method} {c : Code} {H : Heap} {locs : List Loc} {cells slots : Nat} {Q : State → Prop}
variable {pc : Nat} {ls : Array Slot} {rest st0 : List Value} {A : Nat → Prop} {H0 : Heap} {G : Gl} {W0 W1 w w' : va_W} {rv : Option Value} {rm : Room}
theorem cRd (hr : va_Run p l e R s m args below meth c H locs cells slots 0 0 (F0 m pc ls st0) rest (fun st oc t => oc = .returned rv ∧ t.heap = st.heap) (fun _ => False))
    (kk : W p l e R s m args below meth c H locs cells slots Q (F0 m (pc + 3) ls (rv.toList ++ rest))) : W p l e R s m args below meth c H locs cells slots Q (F0 m pc ls st0) := by
  intro T hT X
  obtain ⟨v, st₀, t, T', L, h0, X', hL, e1, e2, ⟨hv, hh⟩, st⟩ := hr T hT X
  cases hv
  obtain ⟨t2, a1, b1⟩ := kk T' (by rw [e1, hh, h0]) (Stand.forget X' (fun q h => (hL q h).elim))
  exact ⟨t2, st t2 a1, b1⟩
theorem cWt (hr : va_Run p l e R s m args below meth c H locs cells slots 0 0 (F0 m pc ls st0) rest (fun st oc t => oc = .returned rv ∧ va_P G.1 vwCl w' t.heap ∧ va_F (Ow w) st t) (Ow w))
    (hP : va_P G.1 vwCl W0 H) (hD : va_D A W0) (hS : va_S A H0 H locs) (is : List Nat) (hC : is.map (fun i => W0[i]?) = w.map some) (hfs : w'.map Prod.fst = w.map Prod.fst) (hW1 : sAll W0 is w' = W1)
    (kk : ∀ (H1 : Heap) (locs1 : List Loc), va_P G.1 vwCl W1 H1 → va_D A W1 → va_S A H0 H1 locs1 → W p l e R s m args below meth c H1 locs1 cells slots Q (F0 m (pc + 3) ls (rv.toList ++ rest))) : W p l e R s m args below meth c H locs cells slots Q (F0 m pc ls st0) := by
  intro T hT X
  obtain ⟨v, st₀, t, T', L, h0, X', hL, e1, e2, ⟨hv, hP1, hz, hk⟩, st⟩ := hr T hT X
  cases hv
  rw [h0] at hz hk
  subst hW1
  have hO := Ow.sub hD hC
  obtain ⟨t2, a1, b1⟩ := kk T'.heap (locs ++ L) (sAll_P hP hD hC hfs (fun q h1 h2 => by rw [e1]; exact hk q h1 h2) (by rw [e1]; exact hP1)) (sAll_D hD hC hfs)
    ⟨Nat.le_trans hS.1 (by rw [e1]; exact hz), fun q h1 h2 => by rw [e1, hk q (Nat.lt_of_lt_of_le h1 hS.1) (fun z => h2 (hO q z))]; exact hS.2.1 q h1 h2, fun q hq => by
      rcases List.mem_append.mp hq with h | h
      · exact hS.2.2 q h
      · exact hO _ (hL q h)⟩ T' rfl X'
  exact ⟨t2, st t2 a1, b1⟩
theorem rd_pre {av : List Value} (hP : va_P G.1 vwCl W0 H) (hK : KK G s) (is : List Nat) (hC : is.map (fun i => W0[i]?) = w.map some) : PreS s H (va_Pc av (fun U => va_P G.1 vwCl w U.heap ∧ KK G U)) av :=
  ⟨fun a U g mk q => ⟨q.1, q.2.1, q.2.2.call g mk a⟩, fun U hU hW => ⟨rfl, by rw [hU]; exact hP.sub is (map_filterMap hC), hK.warm hW⟩⟩
theorem wt_pre {av : List Value} (hP : va_P G.1 vwCl W0 H) (hK : KK G s) (hD : va_D A W0) (is : List Nat) (hn : va_nd is = true) (hC : is.map (fun i => W0[i]?) = w.map some) : PreS s H (va_Pc av (fun U => va_P G.1 vwCl w U.heap ∧ KK G U ∧ va_D (fun _ => True) w)) av :=
  ⟨fun a U g mk q => ⟨q.1, q.2.1, q.2.2.1.call g mk a, q.2.2.2⟩, fun U hU hW => ⟨rfl, by rw [hU]; exact hP.sub is (map_filterMap hC), hK.warm hW, (hD.sub is hn hC).weaken (fun _ _ _ _ => trivial)⟩⟩
variable {y : MethodName} {bytes cc : ByteArray} {maxL nL n index : Nat} {ret : Option FieldType} {ws : List Cond} {Ts : List Cond} {own C host : String} {b : Addr} {As : List Value} {T : u_T} {N ci q0 : Nat} {fs : List Value}
/-- calls of readers: virtual, static, static of a nest mate -/
theorem rdV (S : CallFix p m c cc nL s args Ts own) (hM : Rd l G y ws rm (.ref b :: As) w rv) (cw : CallW R s args own C index y bytes maxL ret ws rm 0 0 n) (hP : va_P G.1 vwCl W0 H) (hK : KK G s) (is : List Nat) (hC : is.map (fun i => W0[i]?) = w.map some)
    (hcl : vwCl[ci]? = some (C, T, N)) (he : W0[q0]? = some (b, .inr (ci, fs))) (hn : As.length = n) (hl : ls.size = nL) (hst : st0 = As.reverse ++ .ref b :: rest) (hr : (rest.map fun v => v.category).sum ≤ 8) (hdg : decode cc pc = .ok (.invokevirtual index, 3)) (hf : cells + 0 ≤ R.cells ∧ slots + 0 ≤ R.slots)
    (kk : W p l e R s m args below meth c H locs cells slots Q (F0 m (pc + 3) ls (rv.toList ++ rest))) : W p l e R s m args below meth c H locs cells slots Q (F0 m pc ls st0) :=
  cRd (va_runV (As := As) (rest := rest) S hM cw ⟨(rd_pre (av := .ref b :: As) hP hK is hC).1, va_recv hK.1 hP hcl he, (rd_pre (av := .ref b :: As) hP hK is hC).2⟩ rfl hn hl hst (lv_room hr) hdg hf) kk
theorem rdS (S : CallFix p m c cc nL s args Ts own) (hM : Rd l G y ws rm As w rv) (cw : CallB R s args own index y bytes maxL ret ws rm 0 0 n ∧ (Cond.static y).before args s = true) (hP : va_P G.1 vwCl W0 H) (hK : KK G s) (is : List Nat) (hC : is.map (fun i => W0[i]?) = w.map some)
    (hn : As.length = n) (hl : ls.size = nL) (hst : st0 = As.reverse ++ rest) (hr : (rest.map fun v => v.category).sum ≤ 8) (hdg : decode cc pc = .ok (.invokestatic index, 3)) (hf : cells + 0 ≤ R.cells ∧ slots + 0 ≤ R.slots)
    (kk : W p l e R s m args below meth c H locs cells slots Q (F0 m (pc + 3) ls (rv.toList ++ rest))) : W p l e R s m args below meth c H locs cells slots Q (F0 m pc ls st0) :=
  cRd (va_runS (As := As) (rest := rest) S hM cw (rd_pre (av := As) hP hK is hC) rfl hn hl hst (lv_room hr) hdg hf) kk
theorem rdSN (S : CallFix p m c cc nL s args Ts own) (hM : Rd l G y ws rm As w rv) (cw : va_CN R s args own index y host bytes maxL ret ws rm 0 0 n ∧ (Cond.static y).before args s = true ∧ True) (hP : va_P G.1 vwCl W0 H) (hK : KK G s) (is : List Nat) (hC : is.map (fun i => W0[i]?) = w.map some)
    (hn : As.length = n) (hl : ls.size = nL) (hst : st0 = As.reverse ++ rest) (hr : (rest.map fun v => v.category).sum ≤ 8) (hdg : decode cc pc = .ok (.invokestatic index, 3)) (hf : cells + 0 ≤ R.cells ∧ slots + 0 ≤ R.slots)
    (kk : W p l e R s m args below meth c H locs cells slots Q (F0 m (pc + 3) ls (rv.toList ++ rest))) : W p l e R s m args below meth c H locs cells slots Q (F0 m pc ls st0) :=
  cRd (va_runSN (As := As) (rest := rest) S hM cw (rd_pre (av := As) hP hK is hC) rfl hn hl hst (lv_room hr) hdg hf) kk
theorem wtV (S : CallFix p m c cc nL s args Ts own) (hM : Wt l G y ws rm (.ref b :: As) w w' rv) (cw : CallW R s args own C index y bytes maxL ret ws rm 0 0 n) (hP : va_P G.1 vwCl W0 H) (hK : KK G s) (hD : va_D A W0) (hS : va_S A H0 H locs) (is : List Nat) (hnd : va_nd is = true) (hC : is.map (fun i => W0[i]?) = w.map some) (hfs : w'.map Prod.fst = w.map Prod.fst) (hW1 : sAll W0 is w' = W1)
    (hcl : vwCl[ci]? = some (C, T, N)) (he : W0[q0]? = some (b, .inr (ci, fs))) (hn : As.length = n) (hl : ls.size = nL) (hst : st0 = As.reverse ++ .ref b :: rest) (hr : (rest.map fun v => v.category).sum ≤ 8) (hdg : decode cc pc = .ok (.invokevirtual index, 3)) (hf : cells + 0 ≤ R.cells ∧ slots + 0 ≤ R.slots)
    (kk : ∀ (H1 : Heap) (locs1 : List Loc), va_P G.1 vwCl W1 H1 → va_D A W1 → va_S A H0 H1 locs1 → W p l e R s m args below meth c H1 locs1 cells slots Q (F0 m (pc + 3) ls (rv.toList ++ rest))) : W p l e R s m args below meth c H locs cells slots Q (F0 m pc ls st0) :=
  cWt (va_runV (As := As) (rest := rest) S hM cw ⟨(wt_pre (av := .ref b :: As) hP hK hD is hnd hC).1, va_recv hK.1 hP hcl he, (wt_pre (av := .ref b :: As) hP hK hD is hnd hC).2⟩ rfl hn hl hst (lv_room hr) hdg hf) hP hD hS is hC hfs hW1 kk
theorem wtI (S : CallFix p m c cc nL s args Ts own) (hM : Wt l G y ws rm (.ref b :: As) w w' rv) (cw : CallB R s args own index y bytes maxL none ws rm 0 0 n ∧ y.name = "<init>" ∧ (Cond.instanceMethod y).before args s = true) (hP : va_P G.1 vwCl W0 H) (hK : KK G s) (hD : va_D A W0) (hS : va_S A H0 H locs) (is : List Nat) (hnd : va_nd is = true) (hC : is.map (fun i => W0[i]?) = w.map some) (hfs : w'.map Prod.fst = w.map Prod.fst) (hW1 : sAll W0 is w' = W1)
    (hn : As.length = n) (hl : ls.size = nL) (hst : st0 = As.reverse ++ .ref b :: rest) (hr : (rest.map fun v => v.category).sum ≤ 8) (hdg : decode cc pc = .ok (.invokespecial index, 3)) (hf : cells + 0 ≤ R.cells ∧ slots + 0 ≤ R.slots)
    (kk : ∀ (H1 : Heap) (locs1 : List Loc), va_P G.1 vwCl W1 H1 → va_D A W1 → va_S A H0 H1 locs1 → W p l e R s m args below meth c H1 locs1 cells slots Q (F0 m (pc + 3) ls (rv.toList ++ rest))) : W p l e R s m args below meth c H locs cells slots Q (F0 m pc ls st0) :=
  cWt (va_runI (As := As) (rest := rest) S hM cw (wt_pre (av := .ref b :: As) hP hK hD is hnd hC) rfl hn hl hst (lv_room hr) hdg hf) hP hD hS is hC hfs hW1 kk
theorem wtIN (S : CallFix p m c cc nL s args Ts own) (hM : Wt l G y ws rm (.ref b :: As) w w' rv) (cw : va_CN R s args own index y host bytes maxL none ws rm 0 0 n ∧ y.name = "<init>" ∧ (Cond.instanceMethod y).before args s = true) (hP : va_P G.1 vwCl W0 H) (hK : KK G s) (hD : va_D A W0) (hS : va_S A H0 H locs) (is : List Nat) (hnd : va_nd is = true) (hC : is.map (fun i => W0[i]?) = w.map some) (hfs : w'.map Prod.fst = w.map Prod.fst) (hW1 : sAll W0 is w' = W1)
    (hn : As.length = n) (hl : ls.size = nL) (hst : st0 = As.reverse ++ .ref b :: rest) (hr : (rest.map fun v => v.category).sum ≤ 8) (hdg : decode cc pc = .ok (.invokespecial index, 3)) (hf : cells + 0 ≤ R.cells ∧ slots + 0 ≤ R.slots)
    (kk : ∀ (H1 : Heap) (locs1 : List Loc), va_P G.1 vwCl W1 H1 → va_D A W1 → va_S A H0 H1 locs1 → W p l e R s m args below meth c H1 locs1 cells slots Q (F0 m (pc + 3) ls (rv.toList ++ rest))) : W p l e R s m args below meth c H locs cells slots Q (F0 m pc ls st0) :=
  cWt (va_runIN (As := As) (rest := rest) S hM cw (wt_pre (av := .ref b :: As) hP hK hD is hnd hC) rfl hn hl hst (lv_room hr) hdg hf) hP hD hS is hC hfs hW1 kk
end BCL
