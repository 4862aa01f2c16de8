/-! the law's wrappers: calls with catches -/
abbrev qwsH (y : MethodName) (cc : ByteArray) (maxL : Nat) (ret : Option FieldType) (hh : List (Nat × Nat × Nat × Nat)) : List Cond := Cond.codeWith y cc maxL ret hh :: lw_good
section QWO
variable {l : Launch} {D : va_G} {A : Nat → Prop} {τ : Nat → ClassId} {ad : Nat → Nat} {N : Nat} {w : Nat → va_E}
theorem qw_of {y : MethodName} {rm : Room} {Qc : Array Value → State → Outcome → State → Prop} {mc ms : Nat} {cc : ByteArray} {maxL : Nat} {ret : Option FieldType} {hh : List (Nat × Nat × Nat × Nat)} {av : List Value} {lv : List (Nat × Value)}
    (hy : plainName y.cls = true) (hav : (lg_sl av).length ≤ maxL) (hlv : lv_args 0 av = lv)
    (body : ∀ (p : Program) (e : Env) (s : State) (m : MethodId) (below : List Frame) (meth : Method) (c : Code) (ls : Array Slot), CallFix p m c cc maxL s av.toArray lw_good y.cls → meth.sig.returnType = ret → meth.locks = false → c.exceptionTable.toList = tableOf hh → lv_has ls maxL lv → qW D τ A s s.heap [] ad N w → qSt A s s.heap →
      W p l e rm s m av.toArray below meth c s.heap [] 0 0 (MQ below Qc av.toArray s mc ms A) (F0 m 0 ls [])) : Met l y (qwsH y cc maxL ret hh) rm (qPx D τ A ad N w av) Qc mc ms A := by
  refine va_MetW (cc := cc) (maxL := maxL) (ret := ret) (hh := hh) hy rfl ?_
  intro p e s m args below meth c s₁ B hml hv
  obtain ⟨rfl, ⟨⟨hP, hK, hD⟩, hA⟩, hst⟩ := hv
  have hts := atoms_spec (ws := qwsH y cc maxL ret hh) B.pre
  have htab := vx_table (x := y) B (hts _ List.mem_cons_self)
  have hl := lv_entry av hav
  rw [hlv] at hl
  rw [lg_entry_eq]
  exact body p e s m below meth c _ ⟨B.exec, B.bytes, hml, findClass_of_methodNamed B.named, fun x hx => hts x (List.mem_cons_of_mem _ hx)⟩ B.returns B.notSynchronized htab hl ⟨hP, hD, hK, va_S.rf, hA⟩ hst
end QWO
/-- an array of one long -/
def q_O (τ : Nat → ClassId) (w : Nat → va_E) (k : Nat) (g : Int64) : Prop := ∃ f : Nat → Int64, w k = .inl (τ 1, 1, .inr (.inl f)) ∧ f 0 = g
theorem q_O.keep {τ : Nat → ClassId} {w w' : Nat → va_E} {k : Nat} {g : Int64} (h : q_O τ w k g) (e : w' k = w k) : q_O τ w' k g := by
  obtain ⟨f, h1, h2⟩ := h
  exact ⟨f, by rw [e]; exact h1, h2⟩
theorem xl_13 : Cond.classLink "LabelRouterLaw" 13 xIA ∈ lw_good := List.mem_filter.mpr ⟨by decide +kernel, by decide +kernel⟩
theorem xl_19 : Cond.classLink "LabelRouterLaw" 19 xIO ∈ lw_good := List.mem_filter.mpr ⟨by decide +kernel, by decide +kernel⟩
theorem xl_21 : Cond.classLink "LabelRouterLaw" 21 xIS ∈ lw_good := List.mem_filter.mpr ⟨by decide +kernel, by decide +kernel⟩
section QWR
variable {p : Program} {l : Launch} {e : Env} {R : Room} {s : State} {m : MethodId} {args : Array Value} {below : List Frame} {meth : Method} {c : Code} {H : Heap} {locs : List Loc} {cells slots : Nat} {Q : State → Prop}
variable {cc : ByteArray} {nL : Nat} {own : String} {pc : Nat} {ls : Array Slot} {rest : List Value} {D : va_G} {A : Nat → Prop} {τ : Nat → ClassId} {ad : Nat → Nat} {N : Nat} {w : Nat → va_E}
theorem q_lastO {Ts : List Cond} (F : CallFix p m c cc nL s args Ts own) (hW : qW D τ A s H locs ad N w) {k : Nat} {g0 : Int64} (hI : q_O τ w k g0) (hk : k < N) {i : Int32} {v : Int64} (hj : i.toInt = 0) (hdg : decode cc pc = .ok (.lastore, 1))
    (kk : ∀ (H1 : Heap) (locs1 : List Loc) (w1 : Nat → va_E), qW D τ A s H1 locs1 ad N w1 → q_O τ w1 k v → (∀ q, q ≠ k → w1 q = w q) → W p l e R s m args below meth c H1 locs1 cells slots Q (F0 m (pc + 1) ls rest)) : W p l e R s m args below meth c H locs cells slots Q (F0 m pc ls (.long v :: .int i :: .ref (ad k) :: rest)) := by
  obtain ⟨g, h1, h2⟩ := hI
  refine va_last F.1 F.2.1 hW.2.2.1 hW.1 hW.2.1 hW.2.2.2.1 k 1 (cA := τ 1) (n := 1) (f := g) (by rw [qL_at hk, h1]) rfl (q_in (j := 0) hj (by omega)) hdg (fun H1 locs1 a1 a2 a3 => ?_)
  refine kk H1 locs1 _ (hW.put a1 a2 a3) ⟨vp_updL g i.toNatClampNeg v, va_up_self _ _ _, ?_⟩ (fun q hq => va_up_ne _ _ hq)
  rw [q_tn (j := 0) hj, pk_uLs]
theorem q_laldO {Ts : List Cond} (F : CallFix p m c cc nL s args Ts own) (hW : qW D τ A s H locs ad N w) {k : Nat} {g0 : Int64} (hI : q_O τ w k g0) (hk : k < N) {i : Int32} (hj : i.toInt = 0) (hdg : decode cc pc = .ok (.laload, 1))
    (kk : W p l e R s m args below meth c H locs cells slots Q (F0 m (pc + 1) ls (.long g0 :: rest))) : W p l e R s m args below meth c H locs cells slots Q (F0 m pc ls (.int i :: .ref (ad k) :: rest)) := by
  obtain ⟨g, h1, h2⟩ := hI
  refine va_lald F.1 F.2.1 hW.2.2.1 hW.1 k 1 (cA := τ 1) (n := 1) (f := g) (by rw [qL_at hk, h1]) rfl (q_in (j := 0) hj (by omega)) hdg ?_
  rw [q_tn (j := 0) hj, h2]
  exact kk
/-- caught by the row number i of the table -/
theorem qw_catch (F : CallFix p m c cc nL s args lw_good "LabelRouterLaw") (hst : qSt A s s.heap) {hh : List (Nat × Nat × Nat × Nat)} (htab : c.exceptionTable.toList = tableOf hh) (pre : List (Nat × Nat × Nat × Nat)) (x : Nat × Nat × Nat × Nat) (suf : List (Nat × Nat × Nat × Nat)) (hsp : hh = pre ++ x :: suf) {E : String} {ce : Cell} {q : Addr}
    (hpass : ∀ z ∈ pre, z.2.2.2 ≠ 0 ∧ ∃ nm : String, Cond.classLink "LabelRouterLaw" z.2.2.2 nm ∈ lw_good ∧ (E, nm) ∈ qNcs) (hx : covers ⟨x.1, x.2.1, x.2.2.1, x.2.2.2⟩ pc = true) (h0 : x.2.2.2 ≠ 0)
    (hlink : Cond.classLink "LabelRouterLaw" x.2.2.2 E ∈ lw_good) (hcast : Cond.castable E E ∈ qBad) (hcell : H[q]? = some ce) (hv : ce.vm = .none) (hcl : s.vm.findClass E = some ce.cls)
    (kk : W p l e R s m args below meth c H locs cells slots Q (F0 m x.2.2.1 ls [.ref q])) : vx_W p l e R s m args below meth c H locs cells slots Q (F0 m pc ls rest) q := by
  refine vx_catch (own := "LabelRouterLaw") (name := E) (E := E) F.2.2.2.1 (pre.map fun q => (⟨q.1, q.2.1, q.2.2.1, q.2.2.2⟩ : ExceptionTableEntry)) ⟨x.1, x.2.1, x.2.2.1, x.2.2.2⟩ (suf.map fun q => (⟨q.1, q.2.1, q.2.2.1, q.2.2.2⟩ : ExceptionTableEntry)) (by rw [htab, hsp]; simp [tableOf]) (fun z hz => ?_) hx h0 (F.2.2.2.2 _ hlink) (va_Nw.use rfl (hst.2.2.1 _ hcast)) hcell hv hcl kk
  obtain ⟨z0, h1, rfl⟩ := List.mem_map.mp hz
  obtain ⟨h2, nm, h3, h4⟩ := hpass z0 h1
  exact Or.inr ⟨h2, nm, F.2.2.2.2 _ h3, hst.2.2.2.2 _ h4⟩
end QWR
