/-! makings: worlds that grow -/
/-- what the word on arrays of arrays says of the tables -/
theorem q_aoS {args : Array Value} {s : State} {ty : FieldType} (h : (Cond.arrayOver (.array ty)).before args s = true) : ∃ (comp c : ClassId) (k : Class), s.vm.findClass (FieldType.array ty).toString = some comp ∧ (s.vm.classes.findIdx? fun (x : Class) => match x.kind with | .array component _ => component == comp | _ => false) = some c ∧ s.vm.classes[c]? = some k ∧ k.kind = .array comp (.array ty) ∧ s.vm.findClass ("[" ++ (FieldType.array ty).toString) = some c := by
  simp only [Cond.before, Cond.holds, Cond.value, beq_iff_eq] at h
  obtain ⟨comp, hc, h⟩ := Option.bind_eq_some_iff.mp h
  obtain ⟨c, hi, h⟩ := Option.bind_eq_some_iff.mp h
  obtain ⟨k, hk, h⟩ := Option.map_eq_some_iff.mp h
  obtain ⟨q1, q2, -⟩ := Array.findIdx?_eq_some_iff_getElem.mp hi
  rw [(Array.getElem?_eq_some_iff.mp hk).2] at q2
  refine ⟨comp, c, k, hc, hi, hk, ?_⟩
  cases e : k.kind with
  | array c2 ty2 =>
    rw [e] at h q2
    simp only [Bool.and_eq_true, decide_eq_true_eq, beq_iff_eq] at h q2
    rw [q2, h.1]
    exact ⟨rfl, h.2⟩
  | _ => rw [e] at h; cases h
theorem va_AOA.moved {ty : FieldType} {u U : State} (hvm : u.vm.Alike U.vm) (h : va_AOA ty u) : va_AOA ty U := by
  obtain ⟨comp, c, k, h1, h2, h3, h4, h5⟩ := q_aoS h
  obtain ⟨k', hk', he⟩ := hvm.2.2 _ _ h3
  have hi : (U.vm.classes.findIdx? fun (x : Class) => match x.kind with | .array component _ => component == comp | _ => false) = some c := by
    have e1 := va_idx_bare U.vm comp
    have e2 := va_idx_bare u.vm comp
    have e3 : U.vm.bare = u.vm.bare := by first | exact hvm.bare_eq | exact hvm.bare_eq.symm
    rw [e3] at e1
    exact e1.symm.trans (e2.trans h2)
  have hkind : k'.kind = .array comp (.array ty) := by rw [he]; exact h4
  unfold va_AOA
  simp only [Cond.before, Cond.holds, Cond.value, beq_iff_eq]
  refine Option.bind_eq_some_iff.mpr ⟨comp, by rw [hvm.findClass]; exact h1, Option.bind_eq_some_iff.mpr ⟨c, hi, Option.map_eq_some_iff.mpr ⟨k', hk', ?_⟩⟩⟩
  rw [hkind]
  simp only [Bool.and_eq_true, decide_eq_true_eq]
  exact ⟨trivial, by rw [hvm.findClass]; exact h5⟩
theorem tw_25 : Cond.instanceMethod objectInit ∈ lw_good := tw_at 25 (by decide +kernel) (by decide +kernel)
theorem tw_26 : Cond.code objectInit ⟨#[0xb1]⟩ 1 none ∈ lw_good := tw_at 26 (by decide +kernel) (by decide +kernel)
theorem q_II : "[" ++ (FieldType.array .int).toString = "[[I" := by decide +kernel
def q_ext {α : Type} (f : Nat → α) (N : Nat) (q : α) (r : Nat → α) : Nat → α := fun k => if k < N then f k else if k = N then q else r (k - N - 1)
theorem q_ext_lt {α : Type} {f : Nat → α} {N : Nat} {q : α} {r : Nat → α} {k : Nat} (h : k < N) : q_ext f N q r k = f k := by
  unfold q_ext
  rw [if_pos h]
theorem q_ext_at {α : Type} {f : Nat → α} {N : Nat} {q : α} {r : Nat → α} : q_ext f N q r N = q := by
  unfold q_ext
  rw [if_neg (Nat.lt_irrefl N), if_pos rfl]
theorem q_ext_row {α : Type} {f : Nat → α} {N : Nat} {q : α} {r : Nat → α} (i : Nat) : q_ext f N q r (N + 1 + i) = r i := by
  unfold q_ext
  rw [if_neg (by omega), if_neg (by omega), show N + 1 + i - N - 1 = i by omega]
theorem qL_rows {ad : Nat → Nat} {N : Nat} {w : Nat → va_E} {q : Nat} {x y : va_E} {r : Nat → Nat} (n : Nat) : (qL ad N w ++ [(q, x)]) ++ (List.range n).map (fun i => (r i, y)) = qL (q_ext ad N q r) (N + 1 + n) (q_ext w N x (fun _ => y)) := by
  induction n with
  | zero =>
    unfold qL
    rw [List.range_zero, List.map_nil, List.append_nil, Nat.add_zero, List.range_succ, List.map_append, List.map_cons, List.map_nil, q_ext_at, q_ext_at]
    congr 1
    refine List.map_congr_left (fun k hk => ?_)
    have h : k < N := List.mem_range.mp hk
    rw [q_ext_lt h, q_ext_lt h]
  | succ n ih =>
    rw [List.range_succ, List.map_append, ← List.append_assoc, ih]
    unfold qL
    rw [show N + 1 + (n + 1) = (N + 1 + n) + 1 by omega, List.range_succ (n := N + 1 + n), List.map_append, List.map_cons, List.map_nil, List.map_cons, List.map_nil, q_ext_row, q_ext_row]
theorem q_G.move {τ : Nat → ClassId} {ad ad' : Nat → Nat} {w w' : Nat → va_E} {k n r : Nat} {M : Nat → Nat → Int} (h : q_G τ ad w k n r M) (e : ∀ q, q < k + 1 + n → ad' q = ad q ∧ (k ≤ q → w' q = w q)) : q_G τ ad' w' k n r M := by
  obtain ⟨⟨f, h1, h2⟩, h3⟩ := h
  exact ⟨⟨f, by rw [(e k (by omega)).2 (by omega)]; exact h1, fun i hi => by rw [(e (k + 1 + i) (by omega)).1]; exact h2 i hi⟩, fun i hi => (h3 i hi).keep ((e (k + 1 + i) (by omega)).2 (by omega))⟩
theorem qNet.move {τ : Nat → ClassId} {ad ad' : Nat → Nat} {w w' : Nat → va_E} {b : Nat} {n : Int} {bh wt : Nat → Nat → Int} (h : qNet τ ad w b n bh wt) (e : ∀ q, q < b + 83 → ad' q = ad q ∧ (b ≤ q → w' q = w q)) : qNet τ ad' w' b n bh wt := by
  obtain ⟨⟨v, h1, h2⟩, h3, h4⟩ := h
  refine ⟨⟨v, by rw [(e b (by omega)).2 (by omega), (e (b + 1) (by omega)).1, (e (b + 42) (by omega)).1]; exact h1, h2⟩, ?_, ?_⟩
  · obtain ⟨⟨f, g1, g2⟩, g3⟩ := h3
    exact ⟨⟨f, by rw [(e _ (by omega)).2 (by omega)]; exact g1, fun i hi => by rw [(e _ (by omega)).1]; exact g2 i hi⟩, fun i hi => (g3 i hi).keep ((e _ (by omega)).2 (by omega))⟩
  · obtain ⟨⟨f, g1, g2⟩, g3⟩ := h4
    exact ⟨⟨f, by rw [(e _ (by omega)).2 (by omega)]; exact g1, fun i hi => by rw [(e _ (by omega)).1]; exact g2 i hi⟩, fun i hi => (g3 i hi).keep ((e _ (by omega)).2 (by omega))⟩
abbrev qAW : Type := (Nat → Nat) × (Nat → va_E)
/-- what holds in every world that agrees with x below E, its cells from lo on -/
def qRb (lo E : Nat) (P : (Nat → Nat) → (Nat → va_E) → Prop) (x : qAW) : Prop := ∀ (ad' : Nat → Nat) (w' : Nat → va_E), (∀ q, q < E → ad' q = x.1 q ∧ (lo ≤ q → w' q = x.2 q)) → P ad' w'
theorem qRb.move {lo E : Nat} {P : (Nat → Nat) → (Nat → va_E) → Prop} {ad ad1 : Nat → Nat} {w w1 : Nat → va_E} (h : qRb lo E P (ad, w)) (e : ∀ q, q < E → ad1 q = ad q ∧ (lo ≤ q → w1 q = w q)) : qRb lo E P (ad1, w1) := fun ad' w' g => h ad' w' (fun q hq => ⟨(g q hq).1.trans (e q hq).1, fun hl => ((g q hq).2 hl).trans ((e q hq).2 hl)⟩)
theorem qRb.use {lo E : Nat} {P : (Nat → Nat) → (Nat → va_E) → Prop} {ad : Nat → Nat} {w : Nat → va_E} (h : qRb lo E P (ad, w)) : P ad w := h ad w (fun _ _ => ⟨rfl, fun _ => rfl⟩)
theorem qRb.I {τ : Nat → ClassId} {ad : Nat → Nat} {w : Nat → va_E} {k n : Nat} {G : Nat → Int} (h : q_I τ w k n G) : qRb k (k + 1) (fun _ w => q_I τ w k n G) (ad, w) := fun _ _ g => h.keep ((g k (by omega)).2 (by omega))
theorem qRb.J {τ : Nat → ClassId} {ad : Nat → Nat} {w : Nat → va_E} {k n : Nat} {G : Nat → Nat} (h : q_J τ w k n G) : qRb k (k + 1) (fun _ w => q_J τ w k n G) (ad, w) := fun _ _ g => h.keep ((g k (by omega)).2 (by omega))
theorem qRb.Z {τ : Nat → ClassId} {ad : Nat → Nat} {w : Nat → va_E} {k n : Nat} {G : Nat → Prop} (h : q_Z τ w k n G) : qRb k (k + 1) (fun _ w => q_Z τ w k n G) (ad, w) := fun _ _ g => h.keep ((g k (by omega)).2 (by omega))
theorem qRb.G {τ : Nat → ClassId} {ad : Nat → Nat} {w : Nat → va_E} {k n r : Nat} {M : Nat → Nat → Int} (h : q_G τ ad w k n r M) : qRb k (k + 1 + n) (fun ad w => q_G τ ad w k n r M) (ad, w) := fun _ _ g => h.move g
theorem qRb.N {τ : Nat → ClassId} {ad : Nat → Nat} {w : Nat → va_E} {b : Nat} {n : Int} {bh wt : Nat → Nat → Int} (h : qNet τ ad w b n bh wt) : qRb b (b + 83) (fun ad w => qNet τ ad w b n bh wt) (ad, w) := fun _ _ g => h.move g
abbrev qBn (D : va_G) (τ : Nat → ClassId) (A : Nat → Prop) (N : Nat) : qAW → State → Prop := fun x t => qB D τ A x.1 N x.2 t
abbrev qPn (D : va_G) (τ : Nat → ClassId) (A : Nat → Prop) (ad : Nat → Nat) (N : Nat) (w : Nat → va_E) (av : List Value) : Array Value → State → Prop := va_Pc av (fun U => ((qB D τ A ad N w U ∧ ∀ q, U.heap.size ≤ q → A q) ∧ qSt A U U.heap) ∧ va_AOA .int U)
theorem qn_blind {D : va_G} {τ : Nat → ClassId} {A : Nat → Prop} {ad : Nat → Nat} {N : Nat} {w : Nat → va_E} {av : List Value} : FrameBlind (qPn D τ A ad N w av) := by
  intro a U g mk q
  obtain ⟨q0, ⟨⟨⟨qP, qK, qD⟩, qA⟩, q1, q2, q3⟩, q4⟩ := q
  exact ⟨q0, ⟨⟨⟨qP, va_K.moved (u := U) (U := U.calling g mk a) (Vm.Alike.refl U.vm) qK, qD⟩, qA⟩, vx_Zq.moved (u := U) (U := U.calling g mk a) (Vm.Alike.refl U.vm) q1, vx_Zq.moved (u := U) (U := U.calling g mk a) (Vm.Alike.refl U.vm) q2, qTab.same (u := U) (U := U.calling g mk a) rfl q3⟩, va_AOA.moved (u := U) (U := U.calling g mk a) (Vm.Alike.refl U.vm) q4⟩
section QNO
variable {l : Launch} {D : va_G} {A : Nat → Prop} {τ : Nat → ClassId} {ad : Nat → Nat} {N : Nat} {w : Nat → va_E}
theorem qn_of {y : MethodName} {rm : Room} {Qc : Array Value → State → Outcome → State → Prop} {mc ms : Nat} {cc : ByteArray} {maxL : Nat} {ret : Option FieldType} {av : List Value} {lv : List (Nat × Value)}
    (hy : plainName y.cls = true) (hav : (lg_sl av).length ≤ maxL) (hlv : lv_args 0 av = lv)
    (body : ∀ (p : Program) (e : Env) (s : State) (m : MethodId) (below : List Frame) (meth : Method) (c : Code) (ls : Array Slot), CallFix p m c cc maxL s av.toArray lw_good y.cls → meth.sig.returnType = ret → meth.locks = false → meth.name = y.name → lv_has ls maxL lv → qW D τ A s s.heap [] ad N w → qSt A s s.heap → va_AOA .int s →
      W p l e rm s m av.toArray below meth c s.heap [] 0 0 (MQ below Qc av.toArray s mc ms A) (F0 m 0 ls [])) : Met l y (qws y cc maxL ret) rm (qPn D τ A ad N w av) Qc mc ms A := by
  refine Met.ofW (cc := cc) (maxL := maxL) (ret := ret) hy rfl ?_
  intro p e s m args below meth c s₁ B hml hv
  obtain ⟨rfl, ⟨⟨⟨hP, hK, hD⟩, hA⟩, hst⟩, hao⟩ := hv
  have hts := atoms_spec (ws := qws y cc maxL ret) B.pre
  have hl := lv_entry av hav
  rw [hlv] at hl
  rw [lg_entry_eq]
  exact body p e s m below meth c _ ⟨B.exec, B.bytes, hml, findClass_of_methodNamed B.named, fun x hx => hts x (List.mem_cons_of_mem _ hx)⟩ B.returns B.notSynchronized (name_of_methodNamed B.named B.method).1 hl ⟨hP, hD, hK, va_S.rf, hA⟩ hst hao
end QNO
section QNR
variable {p : Program} {l : Launch} {e : Env} {R : Room} {s : State} {m : MethodId} {args : Array Value} {below : List Frame} {meth : Method} {c : Code} {H : Heap} {locs : List Loc} {cells slots : Nat} {Q : State → Prop}
variable {cc : ByteArray} {nL : Nat} {own : String} {pc : Nat} {ls : Array Slot} {rest : List Value} {D : va_G} {A : Nat → Prop} {τ : Nat → ClassId} {ad : Nat → Nat} {N : Nat} {w : Nat → va_E}
theorem q_ad0 {k a : Nat} (h : ad k = a) (kk : W p l e R s m args below meth c H locs cells slots Q (F0 m pc ls (.ref (ad k) :: rest))) : W p l e R s m args below meth c H locs cells slots Q (F0 m pc ls (.ref a :: rest)) := by
  subst h
  exact kk
theorem q_ad1 {k a : Nat} {v : Value} (h : ad k = a) (kk : W p l e R s m args below meth c H locs cells slots Q (F0 m pc ls (v :: .ref (ad k) :: rest))) : W p l e R s m args below meth c H locs cells slots Q (F0 m pc ls (v :: .ref a :: rest)) := by
  subst h
  exact kk
theorem q_ad2 {k a : Nat} {v u : Value} (h : ad k = a) (kk : W p l e R s m args below meth c H locs cells slots Q (F0 m pc ls (v :: u :: .ref (ad k) :: rest))) : W p l e R s m args below meth c H locs cells slots Q (F0 m pc ls (v :: u :: .ref a :: rest)) := by
  subst h
  exact kk
theorem q_obj (F : CallFix p m c cc nL s args lw_good own) {a idx : Nat} (h1 : Cond.methodLink own idx objectInit ∈ lw_good) (hsize : ls.size = nL) (hd : decode cc pc = .ok (.invokespecial idx, 3)) (hf : 1 ≤ R.frames) (hl : (rest.map fun v => v.category).sum + 12 ≤ R.locals)
    (kk : W p l e R s m args below meth c H locs cells slots Q (F0 m (pc + 3) ls rest)) : W p l e R s m args below meth c H locs cells slots Q (F0 m pc ls (.ref a :: rest)) :=
  W.objInit F.1 F.2.1 F.2.2.2.1 (F.2.2.2.2 _ h1) (F.2.2.2.2 _ tw_25) (F.2.2.2.2 _ tw_26) rfl (hsize.trans F.2.2.1.symm) rfl hd hf (by show 2 * 0 + _ + 12 ≤ _; omega) kk
theorem q_new (F : CallFix p m c cc nL s args lw_good own) (hW : qW D τ A s H locs ad N w) {C : String} {T : u_T} {n ci index : Nat} (hc : qCl[ci]? = some (C, T, n)) (hin : ∀ x ∈ u_ws C T n, x ∈ lw_good) (ty : Nat → FieldType) (hty : ∀ k, k < n → parseFieldDescriptor (T k).2.2.1 = some (ty k)) (h1 : Cond.classLink own index C ∈ lw_good) (h2 : Cond.instantiable C n ∈ lw_good) (h3 : Cond.initialized C ∈ lw_good) {fs : List Value} (hfs : ∀ j, j < n → defaultValue (ty j) = vp_V fs j) (hcells : cells + 1 ≤ R.cells) (hslots : slots + n ≤ R.slots) (hdg : decode cc pc = .ok (.new index, 3))
    (kk : ∀ (q : Nat) (ad1 : Nat → Nat) (w1 : Nat → va_E) (H1 : Heap), (∀ k, k < N → ad1 k = ad k ∧ w1 k = w k) → ad1 N = q → w1 N = .inr (ci, fs) → qW D τ A s H1 locs ad1 (N + 1) w1 → W p l e R s m args below meth c H1 locs (cells + 1) (slots + n) Q (F0 m (pc + 3) ls (.ref q :: rest))) : W p l e R s m args below meth c H locs cells slots Q (F0 m pc ls rest) := by
  refine va_new F.1 F.2.1 F.2.2.2.2 hin ty hty F.2.2.2.1 (F.2.2.2.2 _ h1) (F.2.2.2.2 _ h2) (F.2.2.2.2 _ h3) hW.2.2.1 hW.1 hW.2.1 hW.2.2.2.1 hW.2.2.2.2 hc hfs hcells hslots hdg (fun q H1 a1 a2 a3 => ?_)
  rw [qL_push] at a1 a2
  exact kk q _ _ H1 (fun k hk => ⟨va_up_ne _ _ (Nat.ne_of_lt hk), va_up_ne _ _ (Nat.ne_of_lt hk)⟩) (va_up_self _ _ _) (va_up_self _ _ _) ⟨a1, a2, hW.2.2.1, a3, hW.2.2.2.2⟩
theorem q_newX (F : CallFix p m c cc nL s args lw_good own) (hW : qW D τ A s H locs ad N w) {atype : ArrayType} {ty : FieldType} {t0 : Nat} (hty : newarray.typeOf atype = ty) (ht : (q_ts τ)[t0]? = some (τ t0, ty)) (hra : ∀ U cA, va_RA U cA ty ↔ U.vm.findClass ("[" ++ ty.toString) = some cA) (h1 : Cond.arrayClass ty ∈ lw_good) {v : Int32} {n : Nat} (hv : v.toInt = (n : Int)) {a0 : vp_A} (ha : ∀ cA : ClassId, vp_cell cA a0 = arrV cA n (fun _ => defaultValue ty)) (hb : n * componentBytes ty ≤ 536870912) (hcells : cells + 1 ≤ R.cells) (hslots : slots + n ≤ R.slots) (hdg : decode cc pc = .ok (.newarray atype, 2))
    (kk : ∀ (q : Nat) (ad1 : Nat → Nat) (w1 : Nat → va_E) (H1 : Heap), (∀ k, k < N → ad1 k = ad k ∧ w1 k = w k) → ad1 N = q → w1 N = .inl (τ t0, a0) → qW D τ A s H1 locs ad1 (N + 1) w1 → W p l e R s m args below meth c H1 locs (cells + 1) (slots + n) Q (F0 m (pc + 2) ls (.ref q :: rest))) : W p l e R s m args below meth c H locs cells slots Q (F0 m pc ls (.int v :: rest)) := by
  refine va_newa F.1 F.2.1 (by rw [hty]; exact F.2.2.2.2 _ h1) hty hW.2.2.1 hW.1 hW.2.1 hW.2.2.2.1 hW.2.2.2.2 ha (by rw [q_ltI, hv]; show ¬ (n : Int) < 0; omega) (q_tn hv) hb hcells hslots hdg (fun q cA H1 a0 a1 a2 a3 => ?_)
  have e : cA = τ t0 := by
    have b1 := (hra s cA).mp (a0.2 4 (cA, ty) rfl).2
    have b2 := (hra s (τ t0)).mp (hW.2.2.1.2 t0 _ ht).2
    rw [b1] at b2
    exact Option.some.inj b2
  subst e
  rw [qL_push] at a1 a2
  exact kk q _ _ H1 (fun k hk => ⟨va_up_ne _ _ (Nat.ne_of_lt hk), va_up_ne _ _ (Nat.ne_of_lt hk)⟩) (va_up_self _ _ _) (va_up_self _ _ _) ⟨a1, a2, hW.2.2.1, a3, hW.2.2.2.2⟩
theorem q_newI (F : CallFix p m c cc nL s args lw_good own) (hW : qW D τ A s H locs ad N w) {v : Int32} (n : Nat) (hv : v.toInt = (n : Int)) (hb : n ≤ 100000) (hcells : cells + 1 ≤ R.cells) (hslots : slots + n ≤ R.slots) (hdg : decode cc pc = .ok (.newarray .int, 2))
    (kk : ∀ (q : Nat) (ad1 : Nat → Nat) (w1 : Nat → va_E) (H1 : Heap), (∀ k, k < N → ad1 k = ad k ∧ w1 k = w k) → ad1 N = q → q_I τ w1 N n (fun _ => 0) → qW D τ A s H1 locs ad1 (N + 1) w1 → W p l e R s m args below meth c H1 locs (cells + 1) (slots + n) Q (F0 m (pc + 2) ls (.ref q :: rest))) : W p l e R s m args below meth c H locs cells slots Q (F0 m pc ls (.int v :: rest)) :=
  q_newX F hW (t0 := 0) (ty := .int) (a0 := (n, .inl (fun _ => 0))) rfl rfl (fun _ _ => Iff.rfl) tw_52 hv (fun cA => vp_cell_i cA n (fun _ => 0)) (by show n * 4 ≤ _; omega) hcells hslots hdg (fun q ad1 w1 H1 a1 a2 a3 a4 => kk q ad1 w1 H1 a1 a2 ⟨fun _ => 0, a3, fun _ _ => rfl⟩ a4)
theorem q_newZ (F : CallFix p m c cc nL s args lw_good own) (hW : qW D τ A s H locs ad N w) {v : Int32} (n : Nat) (hv : v.toInt = (n : Int)) (hb : n ≤ 100000) (hcells : cells + 1 ≤ R.cells) (hslots : slots + n ≤ R.slots) (hdg : decode cc pc = .ok (.newarray .boolean, 2))
    (kk : ∀ (q : Nat) (ad1 : Nat → Nat) (w1 : Nat → va_E) (H1 : Heap), (∀ k, k < N → ad1 k = ad k ∧ w1 k = w k) → ad1 N = q → q_Z τ w1 N n (fun _ => False) → qW D τ A s H1 locs ad1 (N + 1) w1 → W p l e R s m args below meth c H1 locs (cells + 1) (slots + n) Q (F0 m (pc + 2) ls (.ref q :: rest))) : W p l e R s m args below meth c H locs cells slots Q (F0 m pc ls (.int v :: rest)) :=
  q_newX F hW (t0 := 2) (ty := .boolean) (a0 := (n, .inl (fun _ => 0))) rfl rfl (fun _ _ => Iff.rfl) tw_797 hv (fun cA => vp_cell_i cA n (fun _ => 0)) (by show n * 1 ≤ _; omega) hcells hslots hdg (fun q ad1 w1 H1 a1 a2 a3 a4 => kk q ad1 w1 H1 a1 a2 ⟨fun _ => 0, a3, fun _ _ => Or.inr ⟨id, rfl⟩⟩ a4)
theorem q_newJ' (F : CallFix p m c cc nL s args lw_good own) (hW : qW D τ A s H locs ad N w) {v : Int32} (n : Nat) (hv : v.toInt = (n : Int)) (hb : n ≤ 100000) (hcells : cells + 1 ≤ R.cells) (hslots : slots + n ≤ R.slots) (hdg : decode cc pc = .ok (.newarray .long, 2))
    (kk : ∀ (q : Nat) (ad1 : Nat → Nat) (w1 : Nat → va_E) (H1 : Heap), (∀ k, k < N → ad1 k = ad k ∧ w1 k = w k) → ad1 N = q → w1 N = .inl (τ 1, n, .inr (.inl (fun _ => 0))) → qW D τ A s H1 locs ad1 (N + 1) w1 → W p l e R s m args below meth c H1 locs (cells + 1) (slots + n) Q (F0 m (pc + 2) ls (.ref q :: rest))) : W p l e R s m args below meth c H locs cells slots Q (F0 m pc ls (.int v :: rest)) :=
  q_newX F hW (t0 := 1) (ty := .long) (a0 := (n, .inr (.inl (fun _ => 0)))) rfl rfl (fun _ _ => Iff.rfl) tw_106 hv (fun cA => vp_cell_l cA n (fun _ => 0)) (by show n * 8 ≤ _; omega) hcells hslots hdg kk
theorem q_newJ (F : CallFix p m c cc nL s args lw_good own) (hW : qW D τ A s H locs ad N w) {v : Int32} (n : Nat) (hv : v.toInt = (n : Int)) (hb : n ≤ 100000) (hcells : cells + 1 ≤ R.cells) (hslots : slots + n ≤ R.slots) (hdg : decode cc pc = .ok (.newarray .long, 2))
    (kk : ∀ (q : Nat) (ad1 : Nat → Nat) (w1 : Nat → va_E) (H1 : Heap), (∀ k, k < N → ad1 k = ad k ∧ w1 k = w k) → ad1 N = q → q_J τ w1 N n (fun _ => 0) → qW D τ A s H1 locs ad1 (N + 1) w1 → W p l e R s m args below meth c H1 locs (cells + 1) (slots + n) Q (F0 m (pc + 2) ls (.ref q :: rest))) : W p l e R s m args below meth c H locs cells slots Q (F0 m pc ls (.int v :: rest)) :=
  q_newJ' F hW n hv hb hcells hslots hdg (fun q ad1 w1 H1 a1 a2 a3 a4 => kk q ad1 w1 H1 a1 a2 ⟨fun _ => 0, a3, fun _ _ => rfl⟩ a4)
theorem q_mna (F : CallFix p m c cc nL s args lw_good own) (hW : qW D τ A s H locs ad N w) (hao : va_AOA .int s) {index : Nat} (h1 : Cond.classLink own index "[[I" ∈ lw_good) {v u : Int32} (n r : Nat) (hv : v.toInt = (n : Int)) (hu : u.toInt = (r : Int)) (hn : n ≤ 1000) (hr : r ≤ 1000) (hcells : cells + (1 + n) ≤ R.cells) (hslots : slots + (n + n * r) ≤ R.slots) (hdg : decode cc pc = .ok (.multianewarray index 2, 4))
    (kk : ∀ (q : Nat) (ad1 : Nat → Nat) (w1 : Nat → va_E) (H1 : Heap), (∀ k, k < N → ad1 k = ad k ∧ w1 k = w k) → ad1 N = q → q_G τ ad1 w1 N n r (fun _ _ => 0) → qW D τ A s H1 locs ad1 (N + 1 + n) w1 → W p l e R s m args below meth c H1 locs (cells + 1 + n) (slots + n + n * r) Q (F0 m (pc + 4) ls (.ref q :: rest))) : W p l e R s m args below meth c H locs cells slots Q (F0 m pc ls (.int u :: .int v :: rest)) := by
  have hcy : s.vm.findClass (FieldType.array .int).toString = some (τ 0) := (hW.2.2.1.2 0 _ rfl).2
  have h3 : s.vm.findClass ("[" ++ (FieldType.array .int).toString) = some (τ 3) := (hW.2.2.1.2 3 _ rfl).2
  refine va_mna (X := qL ad N w) (L := []) (f := w) (ty := .int) (cy := τ 0) (N' := n) (K' := r) (z := (r, .inl (fun _ => 0))) F.1 F.2.1 F.2.2.2.1 (by rw [q_II]; exact F.2.2.2.2 _ h1) hao (F.2.2.2.2 _ tw_52) hcy hW.2.2.1 (by rw [show va_pl [] w = [] from rfl, List.append_nil]; exact hW.1) (by rw [show va_pl [] w = [] from rfl, List.append_nil]; exact hW.2.1) hW.2.2.2.1 hW.2.2.2.2 (by rw [q_ltI, hv]; show ¬ (n : Int) < 0; omega) (by rw [q_ltI, hu]; show ¬ (r : Int) < 0; omega) (q_tn hv) (q_tn hu) (by omega) (by show r * 4 ≤ _; omega) (by omega) rfl rfl hcells hslots (fun cA => ?_) hdg (fun q rr cA H1 a0 _ aK a1 a2 a3 => ?_)
  · show ({ cls := cA, slots := Array.replicate r (defaultValue .int), vm := .none } : Cell) = _
    rw [arrV_new]
    exact (vp_cell_i cA r (fun _ => 0)).symm
  · have e : cA = τ 3 := by
      have b1 : s.vm.findClass ("[" ++ (FieldType.array .int).toString) = some cA := (aK.2 4 (cA, .array .int) rfl).2
      rw [b1] at h3
      exact Option.some.inj h3
    subst e
    have eL : va_pl ([] ++ (List.range n).map rr) (vr_up w ((List.range n).map rr) (.inl (τ 0, r, .inl (fun _ => 0)))) = (List.range n).map (fun i => (rr i, .inl (τ 0, r, .inl (fun _ => 0)))) := by
      unfold va_pl
      rw [List.nil_append, List.map_map]
      refine List.map_congr_left (fun i hi => ?_)
      show (rr i, vr_up w _ _ (rr i)) = _
      rw [vr_up_in (List.mem_map_of_mem hi)]
    rw [eL, qL_rows] at a1 a2
    refine kk q _ _ H1 (fun k hk => ⟨q_ext_lt hk, q_ext_lt hk⟩) q_ext_at ⟨⟨_, q_ext_at, fun i hi => ?_⟩, fun i hi => ⟨fun _ => 0, q_ext_row i, fun _ _ => rfl⟩⟩ ⟨a1, a2, hW.2.2.1, a3, hW.2.2.2.2⟩
    show (if i < n then some (rr i) else none) = some (q_ext ad N q rr (N + 1 + i))
    rw [q_ext_row, if_pos hi]
theorem q_vretN (F : CallFix p m c cc nL s args lw_good own) (hr : meth.sig.returnType = none) (hlk : meth.locks = false) (hW : qW D τ A s H locs ad N w) {post : qAW → Prop} (hp : post (ad, w)) (hdg : decode cc pc = .ok (.return_, 1)) :
    W p l e R s m args below meth c H locs cells slots (MQ below (va_Qv post (qBn D τ A N) A) args s cells slots A) (F0 m pc ls []) :=
  W.vret F.1 F.2.1 hr (fun t ht hw => ⟨⟨(ad, w), rfl, hp, hW.back ht hw⟩, hW.2.2.2.1.F ht⟩) hW.2.2.2.1.2.2 hdg hlk
theorem q_callN {st0 : List Value} {a : Array Value} {mc ms N' : Nat} (hW : qW D τ A s H locs ad N w) {post : qAW → Prop} (hr : va_Run p l e R s m args below meth c H locs cells slots mc ms (F0 m pc ls st0) rest (va_Qv post (qBn D τ A N') A a) A)
    (kk : ∀ (ad1 : Nat → Nat) (w1 : Nat → va_E) (H1 : Heap) (locs1 : List Loc), post (ad1, w1) → qW D τ A s H1 locs1 ad1 N' w1 → W p l e R s m args below meth c H1 locs1 (cells + mc) (slots + ms) Q (F0 m (pc + 3) ls rest)) : W p l e R s m args below meth c H locs cells slots Q (F0 m pc ls st0) :=
  va_callv hr hW.2.2.2.1 (fun _ _ h => h) (fun _ h => h) (fun u t H1 locs1 ht _ hp hB _ _ hS => kk u.1 u.2 H1 locs1 hp ⟨by rw [← ht]; exact hB.1, hB.2.2, hW.2.2.1, hS, hW.2.2.2.2⟩)
theorem qn_preS (hW : qW D τ A s H locs ad N w) (hst : qSt A s s.heap) (hao : va_AOA .int s) {As : List Value} : PreS s H (qPn D τ A ad N w As) As :=
  ⟨qn_blind, fun U hU hw => ⟨rfl, ⟨⟨⟨by rw [hU]; exact hW.1, va_K.moved hw.alike hW.2.2.1, hW.2.1⟩, fun q hq => hW.2.2.2.2 q (Nat.le_trans hW.2.2.2.1.1 (by rw [← hU]; exact hq))⟩, hst.next hw hW.2.2.2.1 hU⟩, hao.moved hw.alike⟩⟩
variable {C : String} {T : u_T} {index n nn mc ms maxL k ci : Nat} {y : MethodName} {bytes : ByteArray} {ret : Option FieldType} {rm : Room} {fs st0 As : List Value} {Qc : Array Value → State → Outcome → State → Prop}
theorem qn_cI (F : CallFix p m c cc nL s args lw_good own) (hW : qW D τ A s H locs ad N w) (hst0 : qSt A s s.heap) (hao : va_AOA .int s) (h1 : Cond.methodLink own index y ∈ lw_good) (h2 : Cond.instanceMethod y ∈ lw_good) (h4 : Cond.initialized y.cls ∈ lw_good) (h5 : Cond.code y bytes maxL none ∈ lw_good) (hy : y.name = "<init>") (hd : y.cls ≠ "java/lang/invoke/MethodHandle" ∧ y.cls ≠ "java/lang/invoke/VarHandle" ∧ (parseMethodDescriptor y.desc).map (fun d => d.parameters.length) = some n)
    {a : Nat} (hM : Met l y (qws y bytes maxL none) rm (qPn D τ A ad N w (.ref a :: As)) Qc mc ms A) (hrc : rm.cells = mc) (hrs : rm.slots = ms) (hR : rm.frames + 1 ≤ R.frames ∧ 8 + (maxL + 11) + rm.locals ≤ R.locals) (hn : As.length = n) (hsize : ls.size = nL) (hst : st0 = As.reverse ++ .ref a :: rest) (hre : (rest.map fun v => v.category).sum ≤ 8) (hdg : decode cc pc = .ok (.invokespecial index, 3)) (hf : cells + mc ≤ R.cells ∧ slots + ms ≤ R.slots) :
    va_Run p l e R s m args below meth c H locs cells slots mc ms (F0 m pc ls st0) rest (Qc (Value.ref a :: As).toArray) A :=
  va_runI (As := As) (rest := rest) F hM (cwI n F.2.2.2.2 (q_gC h5) rfl hrc hrs (F.2.2.2.2 _ h4) (F.2.2.2.2 _ h1) (F.2.2.2.2 _ h2) hy hd hR) (qn_preS hW hst0 hao) rfl hn hsize hst (lv_room hre) hdg hf
theorem qn_cIN {host : String} (F : CallFix p m c cc nL s args lw_good own) (hW : qW D τ A s H locs ad N w) (hst0 : qSt A s s.heap) (hao : va_AOA .int s) (h1 : va_Nw (.methodLinkNest own index y host) s) (h2 : Cond.instanceMethod y ∈ lw_good) (h4 : Cond.initialized y.cls ∈ lw_good) (h5 : Cond.code y bytes maxL none ∈ lw_good) (hy : y.name = "<init>") (hd : y.cls ≠ "java/lang/invoke/MethodHandle" ∧ y.cls ≠ "java/lang/invoke/VarHandle" ∧ (parseMethodDescriptor y.desc).map (fun d => d.parameters.length) = some n)
    {a : Nat} (hM : Met l y (qws y bytes maxL none) rm (qPn D τ A ad N w (.ref a :: As)) Qc mc ms A) (hrc : rm.cells = mc) (hrs : rm.slots = ms) (hR : rm.frames + 1 ≤ R.frames ∧ 8 + (maxL + 11) + rm.locals ≤ R.locals) (hn : As.length = n) (hsize : ls.size = nL) (hst : st0 = As.reverse ++ .ref a :: rest) (hre : (rest.map fun v => v.category).sum ≤ 8) (hdg : decode cc pc = .ok (.invokespecial index, 3)) (hf : cells + mc ≤ R.cells ∧ slots + ms ≤ R.slots) :
    va_Run p l e R s m args below meth c H locs cells slots mc ms (F0 m pc ls st0) rest (Qc (Value.ref a :: As).toArray) A :=
  va_runIN (As := As) (rest := rest) F hM ⟨va_cnB n F.2.2.2.2 (q_gC h5) rfl hrc hrs h1 (F.2.2.2.2 _ h4) hd hR, hy, F.2.2.2.2 _ h2⟩ (qn_preS hW hst0 hao) rfl hn hsize hst (lv_room hre) hdg hf
end QNR
