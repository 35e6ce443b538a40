/-! ===== the call of a constructor that makes arrays of references ===== -/
section BCB
variable {p : Program} {l : Launch} {e : Env} {R : Room} {s : State} {m : MethodId} {args : Array Value} {below : List Frame} {meth : Method} {c : Code} {H : Heap} {locs : List Loc} {cells slots : Nat} {Q : State → Prop}
variable {pc : Nat} {ls : Array Slot} {rest st0 : List Value} {A : Nat → Prop} {H0 : Heap} {G : Gl} {W0 w : va_W} {rm : Room} {Φ : Option Value → va_W → va_W → Prop} {mc ms : Nat}
variable {y : MethodName} {bytes cc : ByteArray} {maxL nL n index : Nat} {ws : List Cond} {Ts : List Cond} {own : String} {b : Addr} {As : List Value}
theorem mkAI (S : CallFix p m c cc nL s args Ts own) (hM : MkA l G y ws rm mc ms (.ref b :: As) w Φ) (cw : CallB R s args own index y bytes maxL none ws rm mc ms n ∧ y.name = "<init>" ∧ (Cond.instanceMethod y).before args s = true) (hP : va_P G.1 vwCl W0 H) (hK : KK G s) (hO : AO s) (hD : va_D A W0) (hS : va_S A H0 H locs) (hA : ∀ q, H0.size ≤ q → A q) (is : List Nat) (hnd : va_nd is = true) (hC : is.map (fun i => W0[i]?) = w.map some)
    (hn : As.length = n) (hl : ls.size = nL) (hst : st0 = As.reverse ++ .ref b :: rest) (hr : (rest.map fun v => v.category).sum ≤ 8) (hdg : decode cc pc = .ok (.invokespecial index, 3)) (hf : cells + mc ≤ R.cells ∧ slots + ms ≤ R.slots)
    (kk : ∀ (rv : Option Value) (w' x : va_W) (H1 : Heap) (locs1 : List Loc), Φ rv w' x → va_P G.1 vwCl (sAll W0 is w' ++ x) H1 → va_D A (sAll W0 is w' ++ x) → va_S A H0 H1 locs1 → W p l e R s m args below meth c H1 locs1 (cells + mc) (slots + ms) Q (F0 m (pc + 3) ls (rv.toList ++ rest))) : W p l e R s m args below meth c H locs cells slots Q (F0 m pc ls st0) :=
  cMk (va_runI (As := As) (rest := rest) S (hM H.size) cw (mkA_pre (av := .ref b :: As) hP hK hO hD is hnd hC) rfl hn hl hst (lv_room hr) hdg hf) hP hD hS hA is hC kk
end BCB
