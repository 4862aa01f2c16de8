/-! THE CLAIM OUT OF ONE WALK OF THE LAW'S BODY. Your part is whole_start (and what it stands on); all else here is the same for every law, but numbers. -/
def R_law : String := "LabelRouterLaw"
def lw_P (b : Addr) (xs : List Int32) (args : Array Value) (s : State) : Prop := args = #[.ref b] ∧ s.IntsAt b xs ∧ xs.length ≤ 2048 ∧ (Jvm.Cond.and given_1 narrow_1).before args s = true
def lw_Q (_ : Array Value) (s : State) (o : Outcome) (t : State) : Prop := o = .returned (some (.int 1)) ∧ Framed s o t [] 601024 7293034
def lw_Z (below : List Frame) (a : Array Value) (s : State) : State → Prop := fun t => ∃ o, t.status = .running ∧ Ended t below o ∧ lw_Q a s o t
/-- the law's own end, with 1 on the stack, nothing written that was there before, its room as the claim has it -/
theorem lw_ret {p : Program} {l : Launch} {e : Env} {s : State} {m : MethodId} {below : List Frame} {meth : Method} {c : Code} {b : Nat} (hx : p.tables.exec = Jvm.exec) (hb : c.code = code) (hr : meth.sig.returnType = ret) (hlocks : meth.locks = false) {pc : Nat} {H : Heap} {ls : Array Slot} (hdg : decode code pc = .ok (.ireturn, 1)) : W p l e room_1 s m #[Value.ref b] below meth c H [] 601024 7293034 (lw_Z below #[Value.ref b] s) (F0 m pc ls [.int 1]) := by
  intro T hT X
  obtain ⟨fs, hret, hrun, hended, hW, hframe⟩ := X.leave (v := some (.int 1)) (hlocks := hlocks) (fun h => by rw [hr] at h; cases h)
  have hmeth' : T.vm.method? m = some meth := X.method'
  refine ⟨T.setFrames fs, ?_, .returned (some (.int 1)), hrun, hended, rfl, ⟨_, rfl⟩, hW, hframe⟩
  jvm_step X.here [X.here.top, hx, hb, hdg, hmeth', hr, ret, narrow_b1]
  (try refine ⟨rfl, ?_⟩); (try refine ⟨rfl, ?_⟩)
  first | (intro acts; rw [hret _ acts rfl rfl rfl]) | rw [hret _ _ rfl rfl rfl]
  exact Steps.refl _
/-- what holds at the law's entry: the machine, the code, the tables' words (any of lw_tbl by 'hts w (by decide +kernel)'), the script of L ints xs at the cell b, what the Statement gives of the start (any of its parts by flat_of_before) -/
def lw_At (p : Program) (s : State) (m : MethodId) (meth : Method) (c : Code) (b L : Nat) (xs : Nat → Int32) : Prop :=
  p.tables.exec = Jvm.exec ∧ c.code = code ∧ meth.sig.returnType = ret ∧ c.maxLocals = 7 ∧ s.vm.findClass R_law = some m.cls ∧ (∀ w ∈ lw_tbl, w.before #[Value.ref b] s = true) ∧ va_X b L xs s s.heap ∧ b < s.heap.size ∧ meth.locks = false ∧ (Jvm.Cond.and given_1 narrow_1).before #[Value.ref b] s = true
/-! the start: what the tables' words give -/
theorem qBad_in : ∀ w ∈ qBad, w ∈ lw_tbl := by decide +kernel
theorem qStrs_in : ∀ x ∈ qStrs, Cond.stringRef "LabelRouter" x.1 x.2 ∈ lw_tbl := by decide +kernel
theorem qNcs_in : ∀ x ∈ qNcs, Cond.not (.castable x.1 x.2) ∈ flatC (Jvm.Cond.and given_1 narrow_1) := by decide +kernel
theorem tb_lU : Cond.laysStatic Bundle.tN "UNASSIGNED_STACK" Bundle.steD ∈ lw_tbl := by decide +kernel
theorem tb_lS : Cond.laysStatic Bundle.tN "SUPPRESSED_SENTINEL" Bundle.listD ∈ lw_tbl := by decide +kernel
theorem tb_iT : Cond.initialized Bundle.tN ∈ lw_tbl := by decide +kernel
theorem tb_rU : Cond.isRef (.static Bundle.tN "UNASSIGNED_STACK" Bundle.steD) ∈ flatC (Jvm.Cond.and given_1 narrow_1) := by decide +kernel
theorem tb_rS : Cond.isRef (.static Bundle.tN "SUPPRESSED_SENTINEL" Bundle.listD) ∈ flatC (Jvm.Cond.and given_1 narrow_1) := by decide +kernel
theorem tb_AO : Cond.arrayOver (.array .int) ∈ lw_tbl := by decide +kernel
theorem lw_gd {w : Cond} (h : w ∈ lw_good) : w ∈ lw_tbl := (List.mem_filter.mp h).1
theorem lw_st {s : State} {b : Nat} (hts : ∀ w ∈ lw_tbl, w.before #[Value.ref b] s = true) (hgv : (Jvm.Cond.and given_1 narrow_1).before #[Value.ref b] s = true) : qSt (fun q => s.heap.size ≤ q) s s.heap := by
  have hfl := flat_of_before _ hgv
  refine ⟨vx_Zqof (hts _ tb_lU) (hts _ tb_iT) (hfl _ tb_rU) (fun a ha h => absurd ha (Nat.not_lt.mpr h)), vx_Zqof (hts _ tb_lS) (hts _ tb_iT) (hfl _ tb_rS) (fun a ha h => absurd ha (Nat.not_lt.mpr h)), fun w hw => va_Nw.of (qBad_on w hw) (hts w (qBad_in w hw)), fun x hx => ?_, fun x hx => va_Nc.of (hfl _ (qNcs_in x hx))⟩
  obtain ⟨cC, kC, hfc, -⟩ := Cond.instantiable_spec (hts _ (lw_gd tw_20))
  obtain ⟨-, -, -, a, -, -, -, -, -, hev⟩ := Cond.stringRef_spec hfc (hts _ (qStrs_in x hx))
  exact ⟨a, vk_R.of (hts _ (qStrs_in x hx)) hev⟩
theorem lw_K {s : State} {b : Nat} (hts : ∀ w ∈ lw_tbl, w.before #[Value.ref b] s = true) : ∃ (D : va_G) (τ : Nat → ClassId), va_K D qCl (q_ts τ) s := by
  have hg : ∀ w ∈ lw_good, w.before #[Value.ref b] s = true := fun w hw => hts w (lw_gd hw)
  obtain ⟨c0, i0, k0⟩ := u_known hg uw_Fo (hg _ tw_108)
  obtain ⟨c1, i1, k1⟩ := u_known hg uw_La (hg _ tw_79)
  obtain ⟨c2, i2, k2⟩ := u_known hg uw_Ne (hg _ tw_28)
  obtain ⟨c3, i3, k3⟩ := u_known hg uw_Pa (hg _ tw_156)
  obtain ⟨c4, i4, k4⟩ := u_known hg uw_Sc (hg _ tw_54)
  obtain ⟨c5, i5, k5⟩ := u_known hg uw_Wa (hg _ tw_62)
  obtain ⟨c6, i6, k6⟩ := u_known hg uw_LR (hg _ tw_20)
  obtain ⟨c7, i7, k7⟩ := u_known hg uw_Mo (hg _ tw_734)
  obtain ⟨a0, kA0, co0, x0, y0, z0⟩ := Cond.arrayClass_spec (hg _ tw_52)
  obtain ⟨a1, kA1, co1, x1, y1, z1⟩ := Cond.arrayClass_spec (hg _ tw_106)
  obtain ⟨a2, kA2, co2, x2, y2, z2⟩ := Cond.arrayClass_spec (hg _ tw_797)
  obtain ⟨co3, a3, kA3, -, -, y3, z3, x3⟩ := q_aoS (hts _ tb_AO)
  refine ⟨(fun c => match c with | 0 => c0 | 1 => c1 | 2 => c2 | 3 => c3 | 4 => c4 | 5 => c5 | 6 => c6 | _ => c7, fun c => match c with | 0 => i0 | 1 => i1 | 2 => i2 | 3 => i3 | 4 => i4 | 5 => i5 | 6 => i6 | _ => i7), fun k => match k with | 0 => a0 | 1 => a1 | 2 => a2 | _ => a3, fun c q hq => ?_, fun k q hq => ?_⟩
  · match c, hq with
    | 0, hq => cases hq; exact k0
    | 1, hq => cases hq; exact k1
    | 2, hq => cases hq; exact k2
    | 3, hq => cases hq; exact k3
    | 4, hq => cases hq; exact k4
    | 5, hq => cases hq; exact k5
    | 6, hq => cases hq; exact k6
    | 7, hq => cases hq; exact k7
  · match k, hq with
    | 0, hq => cases hq; exact ⟨fun n z => ⟨fun k h => (by cases h), kA0, y0, co0, z0⟩, x0⟩
    | 1, hq => cases hq; exact ⟨fun n z => ⟨fun k h => (by cases h), kA1, y1, co1, z1⟩, x1⟩
    | 2, hq => cases hq; exact ⟨fun n z => ⟨fun k h => (by cases h), kA2, y2, co2, z2⟩, x2⟩
    | 3, hq => cases hq; exact ⟨fun n z => ⟨fun k h => (by cases h), kA3, y3, co3, z3⟩, x3⟩
section QLL
variable {p : Program} {l : Launch} {e : Env} {s : State} {m : MethodId} {below : List Frame} {meth : Method} {c : Code} {D : va_G} {A : Nat → Prop} {τ : Nat → ClassId} {ad : Nat → Nat} {b L : Nat} {xs : Nat → Int32}
set_option maxHeartbeats 4000000 in
set_option maxRecDepth 100000 in
theorem lw_loop (F : CallFix p m c code 7 s #[Value.ref b] lw_good "LabelRouterLaw") (hlt : l.stackTraces = false) (hst : qSt A s s.heap) (hXs : va_X b L xs s s.heap) (hbl : b < s.heap.size) (hbA : ¬ A b) (hL : L ≤ 2048) (hA : ∀ q, A q → s.heap.size ≤ q) (hr : meth.sig.returnType = ret) (hlk : meth.locks = false) (f : Nat) : ∀ (i k : Nat) (iv : Int32) (H : Heap) (locs : List Loc) (w : Nat → va_E) (X : zSt) (ls : Array Slot), L + 4 ≤ i + 4 * f → (i ≤ L ∨ i = 0) → i = 4 * k → iv.toInt = (i : Int) → lwS D τ A s ad b H locs w X k iv ls → W p l e room_1 s m #[Value.ref b] below meth c H locs (485 + 5 * k) (24235 + 30 * k) (lw_Z below #[Value.ref b] s) (F0 m 23 ls []) := by
  induction f with
  | zero => intro i k iv H locs w X ls h1 h2 h3 hiv hS; exact absurd h1 (by omega)
  | succ f ih =>
    intro i k iv H locs w X ls h1 h2 h3 hiv hS
    obtain ⟨hW, -, -, -, -, hl⟩ := id hS
    refine lv_iload F.1 F.2.1 d_Lw_law_23 (lv_at hl 0 rfl) ?_
    refine lv_aload_n F.1 F.2.1 d_Lw_law_25 rfl (lv_at hl 4 rfl) ?_
    refine q_slen F hXs hbl hbA hW hL d_Lw_law_26 (fun v1 hv1 => ?_)
    refine q_iconst F d_Lw_law_27 (by decide) (fun v2 hv2 => ?_)
    refine q_isub F d_Lw_law_28 (by omega) (fun v3 hv3 => ?_)
    refine q_icmp_gt (tgt := 1094) F d_Lw_law_29 (by decide) (fun hcmp => ?_) (fun hcmp => ?_)
    · refine lv_iconst (v := 1) F.1 F.2.1 d_Lw_law_1094 rfl ?_
      refine va_forget (fun q hq => hA _ (hW.2.2.2.1.2.2 q hq)) ?_
      exact W.widen (by omega) (by omega) (lw_ret F.1 F.2.1 hr hlk d_Lw_law_1095)
    · have hk : k ≤ 511 := by omega
      have hi4 : i + 4 ≤ L := by omega
      have K : ∀ (H1 : Heap) (locs1 : List Loc) (w1 : Nat → va_E) (X1 : zSt) (ls1 : Array Slot), lwS D τ A s ad b H1 locs1 w1 X1 (k + 1) iv ls1 → W p l e room_1 s m #[Value.ref b] below meth c H1 locs1 (485 + 5 * k + 5) (24235 + 30 * k + 30) (lw_Z below #[Value.ref b] s) (F0 m 1088 ls1 []) := by
        intro H1 locs1 w1 X1 ls1 hS1
        obtain ⟨g1, g2, g3, g4, g5, hl⟩ := hS1
        refine q_iinc (lv' := fun v4 => [(4, .int v4), (3, .ref (ad 484)), (2, .ref (ad 469)), (1, .ref (ad 0)), (0, .ref b)]) F d_Lw_law_1088 hl (k := 0) rfl (by decide) (by omega) (by decide) (fun _ => rfl) (fun v4 lsv4 hv4 hlv4 => ?_)
        clear hl
        refine lv_goto (tgt := 23) F.1 F.2.1 d_Lw_law_1091 (by decide) ?_
        exact W.widen (by omega) (by omega) (ih (i + 4) (k + 1) v4 H1 locs1 w1 X1 _ (by omega) (by omega) (by omega) (by omega) ⟨g1, g2, g3, g4, g5, hlv4⟩)
      refine lv_aload_n F.1 F.2.1 d_Lw_law_32 rfl (lv_at hl 4 rfl) ?_
      refine lv_iload F.1 F.2.1 d_Lw_law_33 (lv_at hl 0 rfl) ?_
      refine q_sld F hXs hbl hbA hW i (by omega) (by omega) d_Lw_law_35 ?_
      refine q_bipush F d_Lw_law_36 (by decide) (fun v5 hv5 => ?_)
      refine q_and15 F (by omega) d_Lw_law_38 (fun vj j hj hvj => ?_)
      match j, hj, hvj with
      | 0, hj, hvj => exact lv_tableIn (off := 73) (tgt := 112) F.1 F.2.1 d_Lw_law_39 (by rw [hvj]; decide) (by rw [hvj]; decide) (by rw [hvj]; rfl) (by decide) (lwc_nodes F hlt hst hXs hbl hbA hL hS (by omega) i hiv hi4 (by omega) (by omega) K)
      | 1, hj, hvj => exact lv_tableIn (off := 109) (tgt := 148) F.1 F.2.1 d_Lw_law_39 (by rw [hvj]; decide) (by rw [hvj]; decide) (by rw [hvj]; rfl) (by decide) (lwc_edge F hlt hst hXs hbl hbA hL hS (by omega) i hiv hi4 (by omega) (by omega) K)
      | 2, hj, hvj => exact lv_tableIn (off := 189) (tgt := 228) F.1 F.2.1 d_Lw_law_39 (by rw [hvj]; decide) (by rw [hvj]; decide) (by rw [hvj]; rfl) (by decide) (lwc_cut F hlt hst hXs hbl hbA hL hS (by omega) i hiv hi4 (by omega) (by omega) K)
      | 3, hj, hvj => exact lv_tableIn (off := 257) (tgt := 296) F.1 F.2.1 d_Lw_law_39 (by rw [hvj]; decide) (by rw [hvj]; decide) (by rw [hvj]; rfl) (by decide) (lwc_port F hlt hst hXs hbl hbA hL hS (by omega) i hiv hi4 (by omega) (by omega) K)
      | 4, hj, hvj => exact lv_tableIn (off := 325) (tgt := 364) F.1 F.2.1 d_Lw_law_39 (by rw [hvj]; decide) (by rw [hvj]; decide) (by rw [hvj]; rfl) (by decide) (lwc_build F hlt hst hXs hbl hbA hL hS (by omega) i hiv hi4 (by omega) (by omega) K)
      | 5, hj, hvj => exact lv_tableIn (off := 381) (tgt := 420) F.1 F.2.1 d_Lw_law_39 (by rw [hvj]; decide) (by rw [hvj]; decide) (by rw [hvj]; rfl) (by decide) (lwc_landmark F hlt hst hXs hbl hbA hL hS (by omega) i hiv hi4 (by omega) (by omega) K)
      | 6, hj, hvj => exact lv_tableIn (off := 437) (tgt := 476) F.1 F.2.1 d_Lw_law_39 (by rw [hvj]; decide) (by rw [hvj]; decide) (by rw [hvj]; rfl) (by decide) (lwc_table F hlt hst hXs hbl hbA hL hS (by omega) i hiv hi4 (by omega) (by omega) K)
      | 7, hj, hvj => exact lv_tableIn (off := 505) (tgt := 544) F.1 F.2.1 d_Lw_law_39 (by rw [hvj]; decide) (by rw [hvj]; decide) (by rw [hvj]; rfl) (by decide) (lwc_row F hlt hst hXs hbl hbA hL hS (by omega) i hiv hi4 (by omega) (by omega) K)
      | 8, hj, hvj => exact lv_tableIn (off := 573) (tgt := 612) F.1 F.2.1 d_Lw_law_39 (by rw [hvj]; decide) (by rw [hvj]; decide) (by rw [hvj]; rfl) (by decide) (lwc_label F hlt hst hXs hbl hbA hL hS (by omega) i hiv hi4 (by omega) (by omega) K)
      | 9, hj, hvj => exact lv_tableIn (off := 641) (tgt := 680) F.1 F.2.1 d_Lw_law_39 (by rw [hvj]; decide) (by rw [hvj]; decide) (by rw [hvj]; rfl) (by decide) (lwc_tree F hlt hst hXs hbl hbA hL hS (by omega) i hiv hi4 (by omega) (by omega) K)
      | 10, hj, hvj => exact lv_tableIn (off := 721) (tgt := 760) F.1 F.2.1 d_Lw_law_39 (by rw [hvj]; decide) (by rw [hvj]; decide) (by rw [hvj]; rfl) (by decide) (lwc_send F hlt hst hXs hbl hbA hL hS (by omega) i hiv hi4 (by omega) (by omega) K)
      | 11, hj, hvj => exact lv_tableIn (off := 789) (tgt := 828) F.1 F.2.1 d_Lw_law_39 (by rw [hvj]; decide) (by rw [hvj]; decide) (by rw [hvj]; rfl) (by decide) (lwc_hop F hlt hst hXs hbl hbA hL hS (by omega) i hiv hi4 (by omega) (by omega) K)
      | 12, hj, hvj => exact lv_tableIn (off := 845) (tgt := 884) F.1 F.2.1 d_Lw_law_39 (by rw [hvj]; decide) (by rw [hvj]; decide) (by rw [hvj]; rfl) (by decide) (lwc_weight F hlt hst hXs hbl hbA hL hS (by omega) i hiv hi4 (by omega) (by omega) K)
      | 13, hj, hvj => exact lv_tableIn (off := 901) (tgt := 940) F.1 F.2.1 d_Lw_law_39 (by rw [hvj]; decide) (by rw [hvj]; decide) (by rw [hvj]; rfl) (by decide) (lwc_distance F hlt hst hXs hbl hbA hL hS (by omega) i hiv hi4 (by omega) (by omega) K)
      | 14, hj, hvj => exact lv_tableIn (off := 969) (tgt := 1008) F.1 F.2.1 d_Lw_law_39 (by rw [hvj]; decide) (by rw [hvj]; decide) (by rw [hvj]; rfl) (by decide) (lwc_walk F hlt hst hXs hbl hbA hL hS (by omega) i hiv hi4 (by omega) (by omega) K)
      | u9 + 16, hj, _ => exact absurd hj (by omega)
      | 15, hj, hvj =>
        refine lv_tableOut (tgt := 1088) F.1 F.2.1 d_Lw_law_39 (Or.inr (by rw [hvj]; decide)) (by decide) (W.widen (k := 485 + 5 * k + 5) (n := 24235 + 30 * k + 30) (by omega) (by omega) ?_)
        obtain ⟨g1, g2, g3, g4, g5, g6⟩ := hS
        exact K _ _ _ _ _ ⟨g1, g2, g3, g4.up (by omega), g5, g6⟩
end QLL
set_option maxHeartbeats 4000000 in
set_option maxRecDepth 100000 in
/-- from the entry, for every script of at most 2048 ints, the law comes to its end with true -/
theorem whole_start {p : Program} {e : Env} {s : State} {m : MethodId} {below : List Frame} {meth : Method} {c : Code} (l : Launch) (hlt : l.stackTraces = false) {b L : Nat} {xs : Nat → Int32} (hL : L ≤ 2048) (C0 : lw_At p s m meth c b L xs) : W p l e room_1 s m #[Value.ref b] below meth c s.heap [] 0 0 (lw_Z below #[Value.ref b] s) (entryFrame m ([Value.ref b] : List Value).toArray 7) := by
  obtain ⟨hexec, hb, hr, hml, hown, hts, hXs, hbl, hlk, hgv⟩ := C0
  have hst := lw_st hts hgv
  have hao : va_AOA .int s := va_AOA.of (hts _ tb_AO)
  obtain ⟨D, τ, hK⟩ := lw_K hts
  have F : CallFix p m c code 7 s #[Value.ref b] lw_good "LabelRouterLaw" := ⟨hexec, hb, hml, hown, fun w hw => hts w (lw_gd hw)⟩
  obtain ⟨A, hAd⟩ : ∃ A : Nat → Prop, A = fun q => s.heap.size ≤ q := ⟨_, rfl⟩
  rw [← hAd] at hst
  have hA1 : ∀ q, A q → s.heap.size ≤ q := fun q h => by rw [hAd] at h; exact h
  have hA2 : ∀ q, s.heap.size ≤ q → A q := fun q h => by rw [hAd]; exact h
  have hbA : ¬ A b := fun h => absurd hbl (Nat.not_lt.mpr (hA1 b h))
  have hW : qW D τ A s s.heap [] (fun q => q) 0 (fun _ => .inr (0, [])) := ⟨fun k q hq => (by simp [qL] at hq), ⟨fun i j x y hx => (by simp [qL] at hx), fun k q hq => (by simp [qL] at hq)⟩, hK, va_S.rf, hA2⟩
  have hl := lv_entry [Value.ref b] (n := 7) (Nat.le_of_ble_eq_true rfl)
  rw [lg_entry_eq]
  generalize ((lg_sl [Value.ref b] ++ List.replicate (7 - (lg_sl [Value.ref b]).length) Slot.unset).toArray) = ls at hl ⊢
  replace hl : lv_has ls 7 [(0, .ref b)] := hl
  refine q_new F hW (C := R_LR) (T := F_LR) (n := 6) (ci := 6) (fs := [.null, .null, .null, .null, .null, .int 0]) rfl uw_LR t_LR t_LR_ok tw_19 tw_20 tw_1 df_LR (Nat.le_of_ble_eq_true rfl) (Nat.le_of_ble_eq_true rfl) d_Lw_law_0 (fun q1 ad1 w1 H1 he1 ha1 hI1 hW1 => ?_)
  replace hW1 : qW D τ A s H1 ([] : List Loc) ad1 (1) w1 := hW1
  refine lv_dup F.1 F.2.1 d_Lw_law_3 rfl ?_
  refine q_callN hW1 (qn_cI (As := []) (rest := [.ref q1]) F hW1 hst hao tw_21 tw_22 tw_1 tw_23 rfl hs_LR_init (k_LR_init l D τ A ad1 w1 q1 ha1 hI1) rfl rfl ⟨by decide, by decide⟩ rfl hl.1 rfl (Nat.le_of_ble_eq_true rfl) d_Lw_law_4 ⟨Nat.le_of_ble_eq_true rfl, Nat.le_of_ble_eq_true rfl⟩) (fun ad2 w2 H2 locs2 hp2 hW2 => ?_)
  obtain ⟨g12, g22, hLR⟩ := hp2
  replace g12 : ∀ q, q ≤ 0 → ad2 q = ad1 q := g12
  have he2 : ∀ q, q < 0 → ad2 q = ad1 q ∧ w2 q = w1 q := fun q hq => ⟨g12 q (by omega), g22 q hq⟩
  replace ha1 := (g12 (0) (by omega)).trans ha1
  refine lv_astore_n (lv' := [(1, .ref q1), (0, .ref b)]) F.1 F.2.1 d_Lw_law_7 rfl hl (by decide) rfl (fun ls3 hl3 => ?_)
  clear hl
  refine q_new F hW2 (C := R_Mo) (T := F_Mo) (n := 19) (ci := 7) (fs := [.int 0, .int 0, .null, .null, .null, .null, .null, .null, .int 0, .null, .null, .null, .null, .null, .int 0, .int 0, .null, .null, .null]) rfl uw_Mo t_Mo t_Mo_ok tw_733 tw_734 tw_9 df_Mo (Nat.le_of_ble_eq_true rfl) (Nat.le_of_ble_eq_true rfl) d_Lw_law_8 (fun q4 ad4 w4 H4 he4 ha4 hI4 hW4 => ?_)
  replace hW4 : qW D τ A s H4 locs2 ad4 (470) w4 := hW4
  replace ha1 := (he4 (0) (by omega)).1.trans ha1
  replace hLR := hLR.move (fun q hq => ⟨(he4 q (by omega)).1, fun _ => (he4 q (by omega)).2⟩)
  refine lv_dup F.1 F.2.1 d_Lw_law_11 rfl ?_
  refine q_callN hW4 (qn_cI (As := []) (rest := [.ref q4]) F hW4 hst hao tw_735 tw_736 tw_9 tw_737 rfl hs_Mo_init (k_Mo_init l D τ A ad4 w4 q4 ha4 hI4) rfl rfl ⟨by decide, by decide⟩ rfl hl3.1 rfl (Nat.le_of_ble_eq_true rfl) d_Lw_law_12 ⟨Nat.le_of_ble_eq_true rfl, Nat.le_of_ble_eq_true rfl⟩) (fun ad5 w5 H5 locs5 hp5 hW5 => ?_)
  obtain ⟨g15, g25, hMo⟩ := hp5
  replace g15 : ∀ q, q ≤ 469 → ad5 q = ad4 q := g15
  have he5 : ∀ q, q < 469 → ad5 q = ad4 q ∧ w5 q = w4 q := fun q hq => ⟨g15 q (by omega), g25 q hq⟩
  replace ha4 := (g15 (469) (by omega)).trans ha4
  replace ha1 := (he5 (0) (by omega)).1.trans ha1
  replace hLR := hLR.move (fun q hq => ⟨(he5 q (by omega)).1, fun _ => (he5 q (by omega)).2⟩)
  refine lv_astore_n (lv' := [(2, .ref q4), (1, .ref q1), (0, .ref b)]) F.1 F.2.1 d_Lw_law_15 rfl hl3 (by decide) rfl (fun ls6 hl6 => ?_)
  clear hl3
  refine q_iconst F d_Lw_law_16 (by decide) (fun v7 hv7 => ?_)
  refine q_newJ' F hW5 1 (by omega) (by omega) (Nat.le_of_ble_eq_true rfl) (Nat.le_of_ble_eq_true rfl) d_Lw_law_17 (fun q8 ad8 w8 H8 he8 ha8 hI8 hW8 => ?_)
  replace hW8 : qW D τ A s H8 locs5 ad8 (485) w8 := hW8
  replace ha1 := (he8 (0) (by omega)).1.trans ha1
  replace ha4 := (he8 (469) (by omega)).1.trans ha4
  replace hLR := hLR.move (fun q hq => ⟨(he8 q (by omega)).1, fun _ => (he8 q (by omega)).2⟩)
  replace hMo := hMo.move (fun q hq => ⟨(he8 q (by omega)).1, fun _ => (he8 q (by omega)).2⟩)
  refine lv_astore_n (lv' := [(3, .ref q8), (2, .ref q4), (1, .ref q1), (0, .ref b)]) F.1 F.2.1 d_Lw_law_19 rfl hl6 (by decide) rfl (fun ls9 hl9 => ?_)
  clear hl6
  refine q_iconst F d_Lw_law_20 (by decide) (fun v10 hv10 => ?_)
  refine lv_istore (lv' := [(4, .int v10), (3, .ref q8), (2, .ref q4), (1, .ref q1), (0, .ref b)]) F.1 F.2.1 d_Lw_law_21 hl9 (by decide) rfl (fun ls11 hl11 => ?_)
  clear hl9
  rw [← ha8, ← ha4, ← ha1] at hl11
  exact W.widen (Nat.le_of_ble_eq_true rfl) (Nat.le_of_ble_eq_true rfl) (lw_loop F hlt hst hXs hbl hbA hL hA1 hr hlk (L + 1) 0 0 v10 _ _ _ zX0 _ (by omega) (Or.inr rfl) rfl hv10 ⟨hW8, hLR.use, ⟨_, hMo.use⟩, zOK_0, ⟨0, _, hI8, rfl⟩, (lv_sub hl11 [0, 1, 2, 3, 4] rfl)⟩)
set_option maxHeartbeats 4000000 in
theorem lw_walk (l : Launch) (hlt : l.stackTraces = false) (b : Addr) (xs : List Int32) : MetFree l x (headSpec (Jvm.Cond.code x code maxLocals ret :: tables_1) room_1) (lw_P b xs) (fun _ _ _ _ _ => True) lw_Q := by
  refine MetFree.of_bodyS (code := code) (maxLocals := maxLocals) (ret := ret) (by decide) ?_ ?_
  · intro args s m h hn
    obtain ⟨meth, c, h1, h2, h3, h4, h5, h6, -, -⟩ := Cond.code_spec hn (atoms_spec (ws := Jvm.Cond.code x code maxLocals ret :: tables_1) h _ List.mem_cons_self)
    exact ⟨meth, c, h1, h2, h3, h4, h5, h6⟩
  · intro p e s m args below meth c s₁ B hml0 hP _
    obtain ⟨rfl, hx, hbd, hgv⟩ := hP
    obtain ⟨scr, harrAt, hlist, hof, hsmall⟩ := hx
    obtain ⟨hcb, hkn, -, -⟩ := State.arrayAt?_spec harrAt
    have hown : s.vm.findClass R_law = some m.cls := findClass_of_methodNamed B.named
    have hts0 : ∀ c ∈ (Jvm.Cond.code x code maxLocals ret :: tables_1), c.before #[Value.ref b] s = true := atoms_spec (ws := Jvm.Cond.code x code maxLocals ret :: tables_1) B.pre
    have hts : ∀ w ∈ lw_tbl, w.before #[Value.ref b] s = true := k2_hts_sels lw_privs (fun w hw => hts0 w (List.mem_cons_of_mem _ hw)) lw_privs_ok
    have hml : c.maxLocals = 7 := B.maxLocals_eq (hts0 _ List.mem_cons_self)
    have X₀ : Stand p l e room_1 s m #[Value.ref b] below meth c s₁ [] 0 0 := Stand.of_body B
    have hh0 : s₁.heap = s.heap := by rw [B.state]; rfl
    have hsz : scr.slots.size = xs.length := by rw [← Array.length_toList, hlist, List.length_map]
    have hval : ∀ j : Nat, j < xs.length → scr.slots[j]? = some (.int (xs.getD j 0)) := fun j hj => by
      rw [← Array.getElem?_toList, hlist]
      simp [hj]
    have hbl : b < s.heap.size := (Array.getElem?_eq_some_iff.mp hcb).1
    have hX : va_X b xs.length (fun j => xs.getD j 0) s s.heap := ⟨scr, hcb, hof, hkn, hsz, hval⟩
    have K : W p l e room_1 s m #[Value.ref b] below meth c s₁.heap [] 0 0 (lw_Z below #[Value.ref b] s) (entryFrame m ([Value.ref b] : List Value).toArray 7) := by
      rw [hh0]
      exact whole_start l hlt hbd ⟨B.exec, B.bytes, B.returns, hml, hown, hts, hX, hbl, B.notSynchronized, hgv⟩
    obtain ⟨t, a1, o, b1, b2, b3⟩ := K s₁ rfl X₀
    exact ⟨t, o, a1, b1, b2, b3⟩
theorem lw_pre_spec {args : Array Value} {s : State} (h : (Jvm.Cond.and given_1 narrow_1).before args s = true) (hr : rest_1_c.before args s = true) : ∃ (b : Addr) (xs : List Int32), lw_P b xs args s := by
  have hs := flat_of_before _ h
  have hq := flat_of_before _ hr
  have hc : (Cond.count 1).before args s = true := hs _ (by decide +kernel)
  have harr : (Cond.arrayOf (.arg 0) .int).before args s = true := hs _ (by decide +kernel)
  have hle : (Cond.le (.length (.arg 0)) (.int 2048)).before args s = true := hs _ (by decide +kernel)
  have hlen : (Cond.isInt (.length (.arg 0))).before args s = true := hq _ (by decide +kernel)
  have hall : (Cond.all (.arg 0) (.isInt (.elem (.arg 0) (.index 0)))).before args s = true := hq _ (by decide +kernel)
  obtain ⟨b, xs, hb, hx⟩ := State.ints_of_pre rfl harr hlen hall
  have hsm : xs.length < 2 ^ 31 := hx.choose_spec.2.2.2
  have hev : (Term.length (.arg 0)).eval args s none [] s = some (.int xs.length.toInt32) := hx.length_eval hb
  have hv := Cond.le_ints hev (show (Term.int 2048).eval args s none [] s = some (.int 2048) from rfl)
  have hd : xs.length.toInt32 ≤ 2048 := by
    simpa [Cond.before, Cond.holds, hv] using hle
  have hN : xs.length ≤ 2048 := (Int32.ofNat_le_ofNat hsm (by decide)).mp (show Int32.ofNat xs.length ≤ Int32.ofNat 2048 from hd)
  exact ⟨b, xs, Cond.one_arg hc (show args[0]? = some (.ref b) from hb), hx, hN, h⟩
theorem lw_comes (l : Launch) (hlt : l.stackTraces = false) : Comes l x (Jvm.Cond.code x code maxLocals ret :: tables_1) room_1 (fun tb e args s => Calls_1 tb e args s ∧ rest_1 tb e args s ∧ Pre_1 tb e args s)
    (fun _ _ args s o t => lw_Q args s o t) := by
  intro p e ha hc hk s m args below hf hfit hheap happ hpre
  obtain ⟨b, xs, hP⟩ := lw_pre_spec hpre.2.2 hpre.2.1
  obtain ⟨k, o, h1, h2, h3, hQ⟩ := lw_walk l hlt b xs p e ha hc hk s m args below hf ((Spec.applies_iff_loose hf).mp happ).1 hP trivial
  exact ⟨k, o, h1, h2, h3, hQ⟩
theorem lw_frame {s t : State} {o : Outcome} {args : Array Value} (h : Framed s o t [] 601024 7293034) :
    Framed s o t (fieldLocs frame_1_writes args s ++ arrayLocs frame_1_arrays args s ++ staticLocs frame_1_statics s) 601024 7293034 := h
theorem lw_limb (L : Cond) (hL : ∀ (args : Array Value) (s t : State), L.after args s (.returned (some (.int 1))) t = true) :
    ArmFor flags0 classFile x code maxLocals ret World_1 tables_1 room_1 Calls_1 rest_1 Pre_1
      (fun tb e a s o t => postC L tb e a s o t ∧ Framed s o t (fieldLocs frame_1_writes a s ++ arrayLocs frame_1_arrays a s ++ staticLocs frame_1_statics s) 601024 7293034) := by
  intro l hfl _ _ p e ha hc hk s m args below hf hfit hheap happ hpre
  obtain ⟨k, o, h1, h2, h3, rfl, hF⟩ := lw_comes l (by unfold Launch.stackTraces; rw [hfl]; decide) p e ha hc hk s m args below hf hfit hheap happ hpre
  exact ⟨k, _, h1, h2, h3, hL args s _, lw_frame hF⟩
theorem i_vc : Claimed_1_1 ∧ Claimed_1_2 := ⟨lw_limb limb_1_1 (fun args s t => by simp [limb_1_1, Cond.after, Cond.holds, Cond.value]), lw_limb limb_1_2 (fun args s t => Cond.after_iff.mpr (by
  first | (rw [show limb_1_2 = Cond.eq .result (.int 1) from rfl, Cond.eq_ints (x := 1) (y := 1) rfl rfl]; simp; done) | (simp [limb_1_2, Cond.value, Term.eval]; done)))⟩
