/-! THE CLAIM OUT OF ONE WALK OF THE LAW'S BODY. Your part is whole_start (and what it stands on); all else here is the same for every law, but numbers. -/
def R_law : String := "SolsticeBoysLaw"
def lw_P (b : Addr) (xs : List Int32) (args : Array Value) (s : State) : Prop := args = #[.ref b] ∧ s.IntsAt b xs ∧ xs.length ≤ 384 ∧ (Jvm.Cond.and given_1 narrow_1).before args s = true
def lw_Q (_ : Array Value) (s : State) (o : Outcome) (t : State) : Prop := o = .returned (some (.int 1)) ∧ Framed s o t [] 600000 7302250
def lw_Z (below : List Frame) (a : Array Value) (s : State) : State → Prop := fun t => ∃ o, t.status = .running ∧ Ended t below o ∧ lw_Q a s o t
/-- the law's own end, with 1 on the stack, nothing written that was there before, its room as the claim has it -/
theorem lw_ret {p : Program} {l : Launch} {e : Env} {s : State} {m : MethodId} {below : List Frame} {meth : Method} {c : Code} {b : Nat} (hx : p.tables.exec = Jvm.exec) (hb : c.code = code) (hr : meth.sig.returnType = ret) (hlocks : meth.locks = false) {pc : Nat} {H : Heap} {ls : Array Slot} (hdg : decode code pc = .ok (.ireturn, 1)) : W p l e room_1 s m #[Value.ref b] below meth c H [] 600000 7302250 (lw_Z below #[Value.ref b] s) (F0 m pc ls [.int 1]) := by
  intro T hT X
  obtain ⟨fs, hret, hrun, hended, hW, hframe⟩ := X.leave (v := some (.int 1)) (hlocks := hlocks) (fun h => by rw [hr] at h; cases h)
  have hmeth' : T.vm.method? m = some meth := X.method'
  refine ⟨T.setFrames fs, ?_, .returned (some (.int 1)), hrun, hended, rfl, ⟨_, rfl⟩, hW, hframe⟩
  jvm_step X.here [X.here.top, hx, hb, hdg, hmeth', hr, ret, narrow_b1]
  (try refine ⟨rfl, ?_⟩); (try refine ⟨rfl, ?_⟩)
  first | (intro acts; rw [hret _ acts rfl rfl rfl]) | rw [hret _ _ rfl rfl rfl]
  exact Steps.refl _
/-- what holds at the law's entry: the machine, the code, the tables' words (any of lw_tbl by 'hts w (by decide +kernel)'), the script of L ints xs at the cell b, what the Statement gives of the start (any of its parts by flat_of_before) -/
def lw_At (p : Program) (s : State) (m : MethodId) (meth : Method) (c : Code) (b L : Nat) (xs : Nat → Int32) : Prop :=
  p.tables.exec = Jvm.exec ∧ c.code = code ∧ meth.sig.returnType = ret ∧ c.maxLocals = 4 ∧ s.vm.findClass R_law = some m.cls ∧ (∀ w ∈ lw_tbl, w.before #[Value.ref b] s = true) ∧ va_X b L xs s s.heap ∧ b < s.heap.size ∧ meth.locks = false ∧ (Jvm.Cond.and given_1 narrow_1).before #[Value.ref b] s = true
set_option maxHeartbeats 4000000 in
set_option maxRecDepth 100000 in
theorem law_loop {p : Program} {l : Launch} {e : Env} {s : State} {m : MethodId} {below : List Frame} {meth : Method} {c : Code} {b L9 : Nat} {xs : Nat → Int32} (hL : L9 ≤ 384) (C0 : lw_At p s m meth c b L9 xs) {G : Gl} {ca ma rr sh sc : Nat → Nat} {RA SA : Nat → Option Nat} (hK : KK G s) (hRA : ∀ q, q < 8 → RA q = some (rr q)) (hSA : ∀ j, j < 4 → SA j = some (sh j)) : ∀ (d i : Nat) (ls : Array Slot), L9 < i + d → i ≤ L9 → lv_has ls 4 [(3, .int (nI i)), (2, .ref (ma 0)), (1, .ref (ca 0)), (0, .ref b)] → WW p l e s m below meth c (lw_Z below #[Value.ref b] s) b ls G ca ma rr sh sc RA SA 18 (100 + i) (2000 + i) := by
  obtain ⟨hx, hb, hr9, hml, hown, hts0, hX, hbl, hlocks, hgv⟩ := id C0
  have hts : ∀ w ∈ wsL_law, w.before #[Value.ref b] s = true := fun w hw => hts0 w (wsL_law_in w hw)
  have hE : CallFix p m c cL_law 4 s #[Value.ref b] wsL_law RL := ⟨hx, hb, hml, hown, hts⟩
  intro d
  induction d with
  | zero => intro i ls h1 h2; exact absurd h1 (by omega)
  | succ d ih =>
    intro i ls h1 h2 hl R M B tc fl P K U tM tB P2 K2 U2 W1 N1 M1 K1 ln L F SO SL CE mP mK mU at_ rM rB RP RK RB fb fto mW mN mM mQ MO MU H locs cells slots hr hP hD hS hcb hsb
    refine lv_iload_n hx hb dL_law_18 rfl (lv_at hl 0 rfl) ?_
    refine lv_aload_n hx hb dL_law_19 rfl (lv_at hl 3 rfl) ?_
    refine va_slen hx hb hX hbl (Nat.not_le.mpr hbl) hS dL_law_20 ?_
    refine lv_bipush (v := nI 6) hx hb dL_law_21 (by decide) ?_
    refine lv_isub hx hb dL_law_23 ?_
    refine lv_icmp_gt (tgt := 1280) hx hb dL_law_24 (by decide) (fun c1 => ?_) (fun c1 => ?_)
    · refine lv_iconst (v := 1) hx hb dL_law_1280 (by decide) ?_
      refine va_forget (fun q hq => hS.2.2 q hq) ?_
      refine W.widen (k := 600000) (n := 7302250) (by omega) (by omega) ?_
      exact lw_ret hx hb hr9 hlocks dL_law_1281
    · have hi : i + 5 < L9 := by
        have h3 : ¬ L9 < i + 6 := fun q => c1 ((gt6 hL (by omega)).mpr q)
        omega
      have C : LC p s m c b L9 i xs ls G ca ma rr sh RA SA := ⟨hE, hX, hbl, hK, hRA, hSA, hi, hL, hl⟩
      have hk : WW p l e s m below meth c (lw_Z below #[Value.ref b] s) b ls G ca ma rr sh sc RA SA 1274 (101 + i) (2005 + i) := by
        intro R M B tc fl P K U tM tB P2 K2 U2 W1 N1 M1 K1 ln L F SO SL CE mP mK mU at_ rM rB RP RK RB fb fto mW mN mM mQ MO MU H locs cells slots hr hP hD hS hcb hsb
        refine lv_iinc (v := nI (i + 6)) (lv' := [(3, .int (nI (i + 6))), (2, .ref (ma 0)), (1, .ref (ca 0)), (0, .ref b)]) hx hb dL_law_1274 hl (k := 0) rfl (by rw [show Int32.ofInt 6 = nI 6 from by decide]; exact nI_add i 6) (by decide) rfl (fun ls hl => ?_)
        refine lv_goto (tgt := 18) hx hb dL_law_1277 (by decide) ?_
        exact ih (i + 6) ls (by omega) (by omega) hl _ _ _ _ _ _ _ _ _ _ _ _ _ _ _ _ _ _ _ _ _ _ _ _ _ _ _ _ _ _ _ _ _ _ _ _ _ _ _ _ H locs cells slots hr hP hD hS (by omega) (by omega)
      refine lv_aload_n hx hb dL_law_27 rfl (lv_at hl 3 rfl) ?_
      refine lv_iload_n hx hb dL_law_28 rfl (lv_at hl 0 rfl) ?_
      refine va_sld hx hb hX hbl (Nat.not_le.mpr hbl) hS (vp_in_nI (show i < L9 by omega) (by omega)) dL_law_29 ?_
      refine lv_bipush (v := 31) hx hb dL_law_30 (by decide) ?_
      refine lv_iand hx hb dL_law_32 ?_
      obtain ⟨t, ht, et⟩ := and31 (xs (nI i).toNatClampNeg)
      refine lv_tope et ?_
      match t, ht with
      | 0, _ => exact lv_tableIn (tgt := 176) (off := 143) hx hb dL_law_33 (by decide) (by decide) (by decide) (by decide) (cs_town C hk _ _ _ _ _ _ _ _ _ _ _ _ _ _ _ _ _ _ _ _ _ _ _ _ _ _ _ _ _ _ _ _ _ _ _ _ _ _ _ _ H locs cells slots hr hP hD hS hcb hsb)
      | 1, _ => exact lv_tableIn (tgt := 229) (off := 196) hx hb dL_law_33 (by decide) (by decide) (by decide) (by decide) (cs_ofBoy C hk _ _ _ _ _ _ _ _ _ _ _ _ _ _ _ _ _ _ _ _ _ _ _ _ _ _ _ _ _ _ _ _ _ _ _ _ _ _ _ _ H locs cells slots hr hP hD hS hcb hsb)
      | 2, _ => exact lv_tableIn (tgt := 262) (off := 229) hx hb dL_law_33 (by decide) (by decide) (by decide) (by decide) (cs_owes C hk _ _ _ _ _ _ _ _ _ _ _ _ _ _ _ _ _ _ _ _ _ _ _ _ _ _ _ _ _ _ _ _ _ _ _ _ _ _ _ _ H locs cells slots hr hP hD hS hcb hsb)
      | 3, _ => exact lv_tableIn (tgt := 295) (off := 262) hx hb dL_law_33 (by decide) (by decide) (by decide) (by decide) (cs_owe C hk _ _ _ _ _ _ _ _ _ _ _ _ _ _ _ _ _ _ _ _ _ _ _ _ _ _ _ _ _ _ _ _ _ _ _ _ _ _ _ _ H locs cells slots hr hP hD hS hcb hsb)
      | 4, _ => exact lv_tableIn (tgt := 338) (off := 305) hx hb dL_law_33 (by decide) (by decide) (by decide) (by decide) (cs_bind C hk _ _ _ _ _ _ _ _ _ _ _ _ _ _ _ _ _ _ _ _ _ _ _ _ _ _ _ _ _ _ _ _ _ _ _ _ _ _ _ _ H locs cells slots hr hP hD hS hcb hsb)
      | 5, _ => exact lv_tableIn (tgt := 371) (off := 338) hx hb dL_law_33 (by decide) (by decide) (by decide) (by decide) (cs_next C hk _ _ _ _ _ _ _ _ _ _ _ _ _ _ _ _ _ _ _ _ _ _ _ _ _ _ _ _ _ _ _ _ _ _ _ _ _ _ _ _ H locs cells slots hr hP hD hS hcb hsb)
      | 6, _ => exact lv_tableIn (tgt := 394) (off := 361) hx hb dL_law_33 (by decide) (by decide) (by decide) (by decide) (cs_where C hk _ _ _ _ _ _ _ _ _ _ _ _ _ _ _ _ _ _ _ _ _ _ _ _ _ _ _ _ _ _ _ _ _ _ _ _ _ _ _ _ H locs cells slots hr hP hD hS hcb hsb)
      | 7, _ => exact lv_tableIn (tgt := 427) (off := 394) hx hb dL_law_33 (by decide) (by decide) (by decide) (by decide) (cs_knows C hk _ _ _ _ _ _ _ _ _ _ _ _ _ _ _ _ _ _ _ _ _ _ _ _ _ _ _ _ _ _ _ _ _ _ _ _ _ _ _ _ H locs cells slots hr hP hD hS hcb hsb)
      | 8, _ => exact lv_tableIn (tgt := 470) (off := 437) hx hb dL_law_33 (by decide) (by decide) (by decide) (by decide) (cs_able C hk _ _ _ _ _ _ _ _ _ _ _ _ _ _ _ _ _ _ _ _ _ _ _ _ _ _ _ _ _ _ _ _ _ _ _ _ _ _ _ _ H locs cells slots hr hP hD hS hcb hsb)
      | 9, _ => exact lv_tableIn (tgt := 493) (off := 460) hx hb dL_law_33 (by decide) (by decide) (by decide) (by decide) (cs_ring C hk _ _ _ _ _ _ _ _ _ _ _ _ _ _ _ _ _ _ _ _ _ _ _ _ _ _ _ _ _ _ _ _ _ _ _ _ _ _ _ _ H locs cells slots hr hP hD hS hcb hsb)
      | 10, _ => exact lv_tableIn (tgt := 516) (off := 483) hx hb dL_law_33 (by decide) (by decide) (by decide) (by decide) (cs_home C hk _ _ _ _ _ _ _ _ _ _ _ _ _ _ _ _ _ _ _ _ _ _ _ _ _ _ _ _ _ _ _ _ _ _ _ _ _ _ _ _ H locs cells slots hr hP hD hS hcb hsb)
      | 11, _ => exact lv_tableIn (tgt := 539) (off := 506) hx hb dL_law_33 (by decide) (by decide) (by decide) (by decide) (cs_never C hk _ _ _ _ _ _ _ _ _ _ _ _ _ _ _ _ _ _ _ _ _ _ _ _ _ _ _ _ _ _ _ _ _ _ _ _ _ _ _ _ H locs cells slots hr hP hD hS hcb hsb)
      | 12, _ => exact lv_tableIn (tgt := 562) (off := 529) hx hb dL_law_33 (by decide) (by decide) (by decide) (by decide) (cs_walk C hk _ _ _ _ _ _ _ _ _ _ _ _ _ _ _ _ _ _ _ _ _ _ _ _ _ _ _ _ _ _ _ _ _ _ _ _ _ _ _ _ H locs cells slots hr hP hD hS hcb hsb)
      | 13, _ => exact lv_tableIn (tgt := 625) (off := 592) hx hb dL_law_33 (by decide) (by decide) (by decide) (by decide) (cs_forge C hk _ _ _ _ _ _ _ _ _ _ _ _ _ _ _ _ _ _ _ _ _ _ _ _ _ _ _ _ _ _ _ _ _ _ _ _ _ _ _ _ H locs cells slots hr hP hD hS hcb hsb)
      | 14, _ => exact lv_tableIn (tgt := 678) (off := 645) hx hb dL_law_33 (by decide) (by decide) (by decide) (by decide) (cs_reading C hk _ _ _ _ _ _ _ _ _ _ _ _ _ _ _ _ _ _ _ _ _ _ _ _ _ _ _ _ _ _ _ _ _ _ _ _ _ _ _ _ H locs cells slots hr hP hD hS hcb hsb)
      | 15, _ => exact lv_tableIn (tgt := 721) (off := 688) hx hb dL_law_33 (by decide) (by decide) (by decide) (by decide) (cs_exam C hk _ _ _ _ _ _ _ _ _ _ _ _ _ _ _ _ _ _ _ _ _ _ _ _ _ _ _ _ _ _ _ _ _ _ _ _ _ _ _ _ H locs cells slots hr hP hD hS hcb hsb)
      | 16, _ => exact lv_tableIn (tgt := 774) (off := 741) hx hb dL_law_33 (by decide) (by decide) (by decide) (by decide) (cs_back C hk _ _ _ _ _ _ _ _ _ _ _ _ _ _ _ _ _ _ _ _ _ _ _ _ _ _ _ _ _ _ _ _ _ _ _ _ _ _ _ _ H locs cells slots hr hP hD hS hcb hsb)
      | 17, _ => exact lv_tableIn (tgt := 797) (off := 764) hx hb dL_law_33 (by decide) (by decide) (by decide) (by decide) (cs_debts C hk _ _ _ _ _ _ _ _ _ _ _ _ _ _ _ _ _ _ _ _ _ _ _ _ _ _ _ _ _ _ _ _ _ _ _ _ _ _ _ _ H locs cells slots hr hP hD hS hcb hsb)
      | 18, _ => exact lv_tableIn (tgt := 830) (off := 797) hx hb dL_law_33 (by decide) (by decide) (by decide) (by decide) (cs_bound C hk _ _ _ _ _ _ _ _ _ _ _ _ _ _ _ _ _ _ _ _ _ _ _ _ _ _ _ _ _ _ _ _ _ _ _ _ _ _ _ _ H locs cells slots hr hP hD hS hcb hsb)
      | 19, _ => exact lv_tableIn (tgt := 853) (off := 820) hx hb dL_law_33 (by decide) (by decide) (by decide) (by decide) (cs_kinds C hk _ _ _ _ _ _ _ _ _ _ _ _ _ _ _ _ _ _ _ _ _ _ _ _ _ _ _ _ _ _ _ _ _ _ _ _ _ _ _ _ H locs cells slots hr hP hD hS hcb hsb)
      | 20, _ => exact lv_tableIn (tgt := 876) (off := 843) hx hb dL_law_33 (by decide) (by decide) (by decide) (by decide) (cs_odds C hk _ _ _ _ _ _ _ _ _ _ _ _ _ _ _ _ _ _ _ _ _ _ _ _ _ _ _ _ _ _ _ _ _ _ _ _ _ _ _ _ H locs cells slots hr hP hD hS hcb hsb)
      | 21, _ => exact lv_tableIn (tgt := 930) (off := 897) hx hb dL_law_33 (by decide) (by decide) (by decide) (by decide) (cs_sheet C hk _ _ _ _ _ _ _ _ _ _ _ _ _ _ _ _ _ _ _ _ _ _ _ _ _ _ _ _ _ _ _ _ _ _ _ _ _ _ _ _ H locs cells slots hr hP hD hS hcb hsb)
      | 22, _ => exact lv_tableIn (tgt := 973) (off := 940) hx hb dL_law_33 (by decide) (by decide) (by decide) (by decide) (cs_lose C hk _ _ _ _ _ _ _ _ _ _ _ _ _ _ _ _ _ _ _ _ _ _ _ _ _ _ _ _ _ _ _ _ _ _ _ _ _ _ _ _ H locs cells slots hr hP hD hS hcb hsb)
      | 23, _ => exact lv_tableIn (tgt := 996) (off := 963) hx hb dL_law_33 (by decide) (by decide) (by decide) (by decide) (cs_put C hk _ _ _ _ _ _ _ _ _ _ _ _ _ _ _ _ _ _ _ _ _ _ _ _ _ _ _ _ _ _ _ _ _ _ _ _ _ _ _ _ H locs cells slots hr hP hD hS hcb hsb)
      | 24, _ => exact lv_tableIn (tgt := 1039) (off := 1006) hx hb dL_law_33 (by decide) (by decide) (by decide) (by decide) (cs_cell C hk _ _ _ _ _ _ _ _ _ _ _ _ _ _ _ _ _ _ _ _ _ _ _ _ _ _ _ _ _ _ _ _ _ _ _ _ _ _ _ _ H locs cells slots hr hP hD hS hcb hsb)
      | 25, _ => exact lv_tableIn (tgt := 1083) (off := 1050) hx hb dL_law_33 (by decide) (by decide) (by decide) (by decide) (cs_copy C hk _ _ _ _ _ _ _ _ _ _ _ _ _ _ _ _ _ _ _ _ _ _ _ _ _ _ _ _ _ _ _ _ _ _ _ _ _ _ _ _ H locs cells slots hr hP hD hS hcb hsb)
      | 26, _ => exact lv_tableIn (tgt := 1146) (off := 1113) hx hb dL_law_33 (by decide) (by decide) (by decide) (by decide) (cs_tell C hk _ _ _ _ _ _ _ _ _ _ _ _ _ _ _ _ _ _ _ _ _ _ _ _ _ _ _ _ _ _ _ _ _ _ _ _ _ _ _ _ H locs cells slots hr hP hD hS hcb hsb)
      | 27, _ => exact lv_tableIn (tgt := 1169) (off := 1136) hx hb dL_law_33 (by decide) (by decide) (by decide) (by decide) (cs_call C hk _ _ _ _ _ _ _ _ _ _ _ _ _ _ _ _ _ _ _ _ _ _ _ _ _ _ _ _ _ _ _ _ _ _ _ _ _ _ _ _ H locs cells slots hr hP hD hS hcb hsb)
      | 28, _ => exact lv_tableIn (tgt := 1192) (off := 1159) hx hb dL_law_33 (by decide) (by decide) (by decide) (by decide) (cs_as C hk _ _ _ _ _ _ _ _ _ _ _ _ _ _ _ _ _ _ _ _ _ _ _ _ _ _ _ _ _ _ _ _ _ _ _ _ _ _ _ _ H locs cells slots hr hP hD hS hcb hsb)
      | 29, _ => exact lv_tableIn (tgt := 1225) (off := 1192) hx hb dL_law_33 (by decide) (by decide) (by decide) (by decide) (cs_trace C hk _ _ _ _ _ _ _ _ _ _ _ _ _ _ _ _ _ _ _ _ _ _ _ _ _ _ _ _ _ _ _ _ _ _ _ _ _ _ _ _ H locs cells slots hr hP hD hS hcb hsb)
      | 30, _ => exact lv_tableIn (tgt := 1238) (off := 1205) hx hb dL_law_33 (by decide) (by decide) (by decide) (by decide) (cs_fault C hk _ _ _ _ _ _ _ _ _ _ _ _ _ _ _ _ _ _ _ _ _ _ _ _ _ _ _ _ _ _ _ _ _ _ _ _ _ _ _ _ H locs cells slots hr hP hD hS hcb hsb)
      | 31, _ => exact lv_tableIn (tgt := 1251) (off := 1218) hx hb dL_law_33 (by decide) (by decide) (by decide) (by decide) (cs_many C hk _ _ _ _ _ _ _ _ _ _ _ _ _ _ _ _ _ _ _ _ _ _ _ _ _ _ _ _ _ _ _ _ _ _ _ _ _ _ _ _ H locs cells slots hr hP hD hS hcb hsb)
      | t + 32, h => exact absurd h (by omega)
