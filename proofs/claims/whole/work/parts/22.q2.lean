/-! contracts over such worlds -/
def qB (D : va_G) (τ : Nat → ClassId) (A : Nat → Prop) (ad : Nat → Nat) (N : Nat) (w : Nat → va_E) (U : State) : Prop := va_P D qCl (qL ad N w) U.heap ∧ va_K D qCl (q_ts τ) U ∧ va_D A (qL ad N w)
abbrev qPc (D : va_G) (τ : Nat → ClassId) (A : Nat → Prop) (ad : Nat → Nat) (N : Nat) (w : Nat → va_E) (av : List Value) : Array Value → State → Prop := va_Pc av (fun U => qB D τ A ad N w U ∧ ∀ q, U.heap.size ≤ q → A q)
theorem q_blind {D : va_G} {τ : Nat → ClassId} {A : Nat → Prop} {ad : Nat → Nat} {N : Nat} {w : Nat → va_E} {av : List Value} : FrameBlind (qPc D τ A ad N w av) := by
  intro a U g mk q
  obtain ⟨q0, ⟨qP, qK, qD⟩, qA⟩ := q
  exact ⟨q0, ⟨qP, va_K.moved (u := U) (U := U.calling g mk a) (Vm.Alike.refl U.vm) qK, qD⟩, qA⟩
section QC
variable {l : Launch} {D : va_G} {A : Nat → Prop} {τ : Nat → ClassId} {ad : Nat → Nat} {N : Nat} {w : Nat → va_E}
theorem q_ofW {y : MethodName} {ws ws' : List Cond} {rm : Room} {Qc : Array Value → State → Outcome → State → Prop} {mc ms : Nat} {cc : ByteArray} {maxL : Nat} {ret : Option FieldType} {av : List Value} {lv : List (Nat × Value)}
    (hy : plainName y.cls = true) (hw : ws = Cond.code y cc maxL ret :: ws') (hav : (lg_sl av).length ≤ maxL) (hlv : lv_args 0 av = lv)
    (body : ∀ (p : Program) (e : Env) (s : State) (m : MethodId) (below : List Frame) (meth : Method) (c : Code) (ls : Array Slot), CallFix p m c cc maxL s av.toArray ws y.cls → meth.sig.returnType = ret → meth.locks = false → meth.name = y.name → c.exceptionTable.isEmpty = true → lv_has ls maxL lv → qW D τ A s s.heap [] ad N w →
      W p l e rm s m av.toArray below meth c s.heap [] 0 0 (MQ below Qc av.toArray s mc ms A) (F0 m 0 ls [])) : Met l y ws rm (qPc D τ A ad N w av) Qc mc ms A := by
  refine Met.ofW (cc := cc) (maxL := maxL) (ret := ret) hy hw ?_
  intro p e s m args below meth c s₁ B hml hv
  obtain ⟨rfl, ⟨hP, hK, hD⟩, hA⟩ := hv
  have hts := atoms_spec (ws := ws) B.pre
  have hl := lv_entry av hav
  rw [hlv] at hl
  rw [lg_entry_eq]
  exact body p e s m below meth c _ ⟨B.exec, B.bytes, hml, findClass_of_methodNamed B.named, hts⟩ B.returns B.notSynchronized (name_of_methodNamed B.named B.method).1 (B.noHandlers (hts _ (by rw [hw]; exact List.mem_cons_self))) hl ⟨hP, hD, hK, va_S.rf, hA⟩
end QC
section QD
variable {p : Program} {l : Launch} {e : Env} {R : Room} {s : State} {m : MethodId} {args : Array Value} {below : List Frame} {meth : Method} {c : Code} {H : Heap} {locs : List Loc} {cells slots : Nat} {Q : State → Prop}
variable {cc : ByteArray} {nL : Nat} {Ts : List Cond} {own : String} {pc : Nat} {ls : Array Slot} {rest : List Value} {D : va_G} {A : Nat → Prop} {τ : Nat → ClassId} {ad : Nat → Nat} {N : Nat} {w : Nat → va_E}
theorem qW.back (hW : qW D τ A s H locs ad N w) {t : State} (ht : t.heap = H) (hw : s.WarmedH t.vm) : qB D τ A ad N w t := ⟨by rw [ht]; exact hW.1, va_K.moved hw.alike hW.2.2.1, hW.2.1⟩
theorem q_iret (F : CallFix p m c cc nL s args Ts own) (hr : meth.sig.returnType = some .int) (hlk : meth.locks = false) (hW : qW D τ A s H locs ad N w) {post : Int32 → (Nat → va_E) → Prop} {v : Int32} (hp : post v w) (hdg : decode cc pc = .ok (.ireturn, 1)) :
    W p l e R s m args below meth c H locs cells slots (MQ below (va_Qi post (qB D τ A ad N) A) args s cells slots A) (F0 m pc ls [.int v]) :=
  W.iret (v := v) F.1 F.2.1 hr (fun t ht hw => ⟨⟨v, w, rfl, hp, hW.back ht hw⟩, hW.2.2.2.1.F ht⟩) hW.2.2.2.1.2.2 hdg hlk
theorem q_zret (F : CallFix p m c cc nL s args Ts own) (hr : meth.sig.returnType = some .boolean) (hlk : meth.locks = false) (hW : qW D τ A s H locs ad N w) {post : Int32 → (Nat → va_E) → Prop} {v : Int32} (hv : v = 0 ∨ v = 1) (hp : post v w) (hdg : decode cc pc = .ok (.ireturn, 1)) :
    W p l e R s m args below meth c H locs cells slots (MQ below (va_Qi post (qB D τ A ad N) A) args s cells slots A) (F0 m pc ls [.int v]) :=
  W.zret (v := v) F.1 F.2.1 hr (by rcases hv with q | q <;> subst q <;> decide) (fun t ht hw => ⟨⟨v, w, rfl, hp, hW.back ht hw⟩, hW.2.2.2.1.F ht⟩) hW.2.2.2.1.2.2 hdg hlk
theorem q_vret (F : CallFix p m c cc nL s args Ts own) (hr : meth.sig.returnType = none) (hlk : meth.locks = false) (hW : qW D τ A s H locs ad N w) {post : (Nat → va_E) → Prop} (hp : post w) (hdg : decode cc pc = .ok (.return_, 1)) :
    W p l e R s m args below meth c H locs cells slots (MQ below (va_Qv post (qB D τ A ad N) A) args s cells slots A) (F0 m pc ls []) :=
  W.vret F.1 F.2.1 hr (fun t ht hw => ⟨⟨w, rfl, hp, hW.back ht hw⟩, hW.2.2.2.1.F ht⟩) hW.2.2.2.1.2.2 hdg hlk
/-- what a call brings back -/
theorem qW.next (hW : qW D τ A s H locs ad N w) {w1 : Nat → va_E} {t : State} {H1 : Heap} {locs1 : List Loc} (ht : t.heap = H1) (hB : qB D τ A ad N w1 t) (hS : va_S A s.heap H1 locs1) : qW D τ A s H1 locs1 ad N w1 := ⟨by rw [← ht]; exact hB.1, hB.2.2, hW.2.2.1, hS, hW.2.2.2.2⟩
theorem q_calli {st0 : List Value} {a : Array Value} {mc ms : Nat} (hW : qW D τ A s H locs ad N w) {post : Int32 → (Nat → va_E) → Prop} (hr : va_Run p l e R s m args below meth c H locs cells slots mc ms (F0 m pc ls st0) rest (va_Qi post (qB D τ A ad N) A a) A)
    (kk : ∀ (r : Int32) (w1 : Nat → va_E) (H1 : Heap) (locs1 : List Loc), post r w1 → qW D τ A s H1 locs1 ad N w1 → W p l e R s m args below meth c H1 locs1 (cells + mc) (slots + ms) Q (F0 m (pc + 3) ls (.int r :: rest))) : W p l e R s m args below meth c H locs cells slots Q (F0 m pc ls st0) :=
  va_calli hr hW.2.2.2.1 (fun _ _ h => h) (fun _ h => h) (fun r u t H1 locs1 ht _ hp hB _ _ hS => kk r u H1 locs1 hp (hW.next ht hB hS))
theorem q_callv {st0 : List Value} {a : Array Value} {mc ms : Nat} (hW : qW D τ A s H locs ad N w) {post : (Nat → va_E) → Prop} (hr : va_Run p l e R s m args below meth c H locs cells slots mc ms (F0 m pc ls st0) rest (va_Qv post (qB D τ A ad N) A a) A)
    (kk : ∀ (w1 : Nat → va_E) (H1 : Heap) (locs1 : List Loc), post w1 → qW D τ A s H1 locs1 ad N w1 → W p l e R s m args below meth c H1 locs1 (cells + mc) (slots + ms) Q (F0 m (pc + 3) ls rest)) : W p l e R s m args below meth c H locs cells slots Q (F0 m pc ls st0) :=
  va_callv hr hW.2.2.2.1 (fun _ _ h => h) (fun _ h => h) (fun u t H1 locs1 ht _ hp hB _ _ hS => kk u H1 locs1 hp (hW.next ht hB hS))
/-- what a call asks of its start -/
theorem q_preS (hW : qW D τ A s H locs ad N w) {As : List Value} : PreS s H (qPc D τ A ad N w As) As :=
  ⟨q_blind, fun U hU hw => ⟨rfl, ⟨by rw [hU]; exact hW.1, va_K.moved hw.alike hW.2.2.1, hW.2.1⟩, fun q hq => hW.2.2.2.2 q (Nat.le_trans hW.2.2.2.1.1 (by rw [← hU]; exact hq))⟩⟩
theorem q_preV (hW : qW D τ A s H locs ad N w) {k ci : Nat} {fs : List Value} {q : vw_C} (hk : k < N) (ho : w k = .inr (ci, fs)) (hc : qCl[ci]? = some q) {As : List Value} : PreV s H q.1 (ad k) (qPc D τ A ad N w (.ref (ad k) :: As)) As :=
  ⟨q_blind, va_recv hW.2.2.1 hW.1 (q0 := k) (fs := fs) hc (by rw [qL_at hk, ho]), (q_preS hW).2⟩
end QD
