/-! what throws -/
abbrev xN : List String := ["java/lang/RuntimeException", "java/lang/Exception"]
abbrev xIA : String := "java/lang/IllegalArgumentException"
abbrev xIO : String := "java/lang/IndexOutOfBoundsException"
abbrev xIS : String := "java/lang/IllegalStateException"
/-- words that aren't good, but stay -/
def qBad : List Cond := [.castable xIA xIA, .castable xIO xIO, .castable xIS xIS, .declares ⟨"java/lang/RuntimeException", "<init>", "(Ljava/lang/String;)V"⟩, .declares ⟨"java/lang/Exception", "<init>", "(Ljava/lang/String;)V"⟩, .declares ⟨"java/lang/Throwable", "<init>", "(Ljava/lang/String;)V"⟩, .fieldLinkNest "LabelRouter" 110 "LabelRouter$Scheme" "landmarks" "LLabelRouter$Landmarks;" "LabelRouter", .fieldLinkNest "LabelRouter" 150 "LabelRouter$Scheme" "forest" "LLabelRouter$Forest;" "LabelRouter", .methodLinkNest "LabelRouter" 18 ⟨"LabelRouter$Scheme", "<init>", "()V"⟩ "LabelRouter", .methodLinkNest "LabelRouter" 25 ⟨"LabelRouter$Packets", "<init>", "()V"⟩ "LabelRouter"]
def qStrs : List (Nat × String) := [(43, "n is not 1 .. 40"), (200, "there is none with that number"), (57, "no edge can be so"), (69, "a node has no free port"), (80, "there is no such edge"), (94, "bucket is not 1 .. 40"), (104, "not all nodes are joined"), (203, "nothing is built"), (135, "there is no such row"), (148, "no landmark has that number"), (208, "there is no such packet")]
def qNcs : List (String × String) := [(xIA, xIO), (xIA, xIS), (xIO, xIA), (xIO, xIS), (xIS, xIA), (xIS, xIO)]
def qTab (U : State) : Prop := (∀ w ∈ qBad, va_Nw w U) ∧ (∀ x ∈ qStrs, ∃ a, vk_R "LabelRouter" x.1 x.2 a U) ∧ ∀ x ∈ qNcs, va_Nc x.1 x.2 U
theorem qBad_on : ∀ w ∈ qBad, w.onTables = true := by decide +kernel
theorem qTab.same {u U : State} (h : u.vm = U.vm) (hT : qTab u) : qTab U := ⟨fun w hw => (hT.1 w hw).same (qBad_on w hw) h, fun x hx => (hT.2.1 x hx).imp fun _ ha => vk_R.same h.symm ha, fun x hx => va_Nc.moved (by rw [h]; exact Vm.Alike.refl _) (hT.2.2 x hx)⟩
theorem qTab.warm {s U : State} (hW : s.WarmedH U.vm) (hT : qTab s) : qTab U := by
  refine ⟨fun w hw => ?_, fun x hx => (hT.2.1 x hx).imp fun _ ha => vk_R.warm hW ha, fun x hx => va_Nc.moved hW.alike (hT.2.2 x hx)⟩
  have h := hT.1 w hw
  simp only [qBad, List.mem_cons, List.not_mem_nil, or_false] at hw
  rcases hw with rfl | rfl | rfl | rfl | rfl | rfl | rfl | rfl | rfl | rfl
  · exact h.warmC hW
  · exact h.warmC hW
  · exact h.warmC hW
  · exact h.warmD hW
  · exact h.warmD hW
  · exact h.warmD hW
  · exact h.warmF hW
  · exact h.warmF hW
  · exact h.warmM hW
  · exact h.warmM hW
/-- what throws need beside the world -/
def qSt (A : Nat → Prop) (U : State) (H : Heap) : Prop := vx_Zq Bundle.tN "UNASSIGNED_STACK" Bundle.steD A U H ∧ vx_Zq Bundle.tN "SUPPRESSED_SENTINEL" Bundle.listD A U H ∧ qTab U
theorem qSt.next {A : Nat → Prop} {s U : State} {H : Heap} {locs : List Loc} (hW : s.WarmedH U.vm) (hS : va_S A s.heap H locs) (hU : U.heap = H) (h : qSt A s s.heap) : qSt A U U.heap := by
  rw [hU]
  exact ⟨vx_Zq.moved hW.alike (h.1.kept hS.2.1), vx_Zq.moved hW.alike (h.2.1.kept hS.2.1), h.2.2.warm hW⟩
abbrev qPx (D : va_G) (τ : Nat → ClassId) (A : Nat → Prop) (ad : Nat → Nat) (N : Nat) (w : Nat → va_E) (av : List Value) : Array Value → State → Prop := va_Pc av (fun U => (qB D τ A ad N w U ∧ ∀ q, U.heap.size ≤ q → A q) ∧ qSt A U U.heap)
theorem qx_blind {D : va_G} {τ : Nat → ClassId} {A : Nat → Prop} {ad : Nat → Nat} {N : Nat} {w : Nat → va_E} {av : List Value} : FrameBlind (qPx D τ A ad N w av) := by
  intro a U g mk q
  obtain ⟨q0, ⟨⟨qP, qK, qD⟩, qA⟩, q1, q2, q3⟩ := q
  exact ⟨q0, ⟨⟨qP, va_K.moved (u := U) (U := U.calling g mk a) (Vm.Alike.refl U.vm) qK, qD⟩, qA⟩, vx_Zq.moved (u := U) (U := U.calling g mk a) (Vm.Alike.refl U.vm) q1, vx_Zq.moved (u := U) (U := U.calling g mk a) (Vm.Alike.refl U.vm) q2, qTab.same (u := U) (U := U.calling g mk a) rfl q3⟩
/-- what a throw leaves -/
abbrev qXC (D : va_G) (τ : Nat → ClassId) (A : Nat → Prop) (ad : Nat → Nat) (N : Nat) (pX : String → (Nat → va_E) → Prop) : String → State → State → Prop := vx_X (fun _ : Nat → va_E => True) (fun E w1 t => pX E w1 ∧ qB D τ A ad N w1 t) A
section QXO
variable {l : Launch} {D : va_G} {A : Nat → Prop} {τ : Nat → ClassId} {ad : Nat → Nat} {N : Nat} {w : Nat → va_E}
theorem qx_of {y : MethodName} {rm : Room} {Qc : Array Value → State → Outcome → State → Prop} {XC : String → State → State → Prop} {mc ms : Nat} {cc : ByteArray} {maxL : Nat} {ret : Option FieldType} {av : List Value} {lv : List (Nat × Value)}
    (hy : plainName y.cls = true) (hav : (lg_sl av).length ≤ maxL) (hlv : lv_args 0 av = lv)
    (body : ∀ (p : Program) (e : Env) (s : State) (m : MethodId) (below : List Frame) (meth : Method) (c : Code) (ls : Array Slot), CallFix p m c cc maxL s av.toArray lw_good y.cls → meth.sig.returnType = ret → meth.locks = false → (∀ x ∈ c.exceptionTable.toList, False) → lv_has ls maxL lv → qW D τ A s s.heap [] ad N w → qSt A s s.heap →
      W p l e rm s m av.toArray below meth c s.heap [] 0 0 (vx_MQ below Qc XC av.toArray s mc ms A) (F0 m 0 ls [])) : vx_Met l y (qws y cc maxL ret) rm (qPx D τ A ad N w av) Qc XC mc ms A := by
  refine vx_ofW (cc := cc) (maxL := maxL) (ret := ret) hy rfl ?_
  intro p e s m args below meth c s₁ B hml ht hv
  obtain ⟨rfl, ⟨⟨hP, hK, hD⟩, hA⟩, hst⟩ := hv
  have hts := atoms_spec (ws := qws y cc maxL ret) B.pre
  have hl := lv_entry av hav
  rw [hlv] at hl
  rw [lg_entry_eq]
  exact body p e s m below meth c _ ⟨B.exec, B.bytes, hml, findClass_of_methodNamed B.named, fun x hx => hts x (List.mem_cons_of_mem _ hx)⟩ B.returns B.notSynchronized ht hl ⟨hP, hD, hK, va_S.rf, hA⟩ hst
end QXO
section QXR
variable {p : Program} {l : Launch} {e : Env} {R : Room} {s : State} {m : MethodId} {args : Array Value} {below : List Frame} {meth : Method} {c : Code} {H : Heap} {locs : List Loc} {cells slots : Nat} {Q : State → Prop}
variable {cc : ByteArray} {nL : Nat} {own : String} {pc : Nat} {ls : Array Slot} {rest : List Value} {D : va_G} {A : Nat → Prop} {τ : Nat → ClassId} {ad : Nat → Nat} {N : Nat} {w : Nat → va_E}
variable {Qc : Array Value → State → Outcome → State → Prop} {XC : String → State → State → Prop} {pX : String → (Nat → va_E) → Prop} {mc ms : Nat}
theorem qx_throw (F : CallFix p m c cc nL s args lw_good "LabelRouter") (hl : l.stackTraces = false) (hW : qW D τ A s H locs ad N w) (hst : qSt A s s.heap) {cls text : String} {ik is ic : Nat} (hfit : Bundle.fit cls = true)
    (hk : Cond.classLink "LabelRouter" ik cls ∈ lw_good) (hini : Cond.initialized cls ∈ lw_good) (hs1 : (is, text) ∈ qStrs) (hat1 : ∀ w ∈ (vx_atS "LabelRouter" ic cls xN).filter goodWord, w ∈ lw_good) (hat2 : ∀ w ∈ (vx_atS "LabelRouter" ic cls xN).filter (fun w => !goodWord w), w ∈ qBad) (hot : ∀ w ∈ Cond.classLink "LabelRouter" ik cls :: Cond.initialized cls :: vx_atS "LabelRouter" ic cls xN, vx_ot w = true)
    (hsize : ls.size = nL) (hout : ∀ x ∈ c.exceptionTable.toList, False) (hlk : meth.locks = false) (hp : pX cls w) (hRf : 6 ≤ R.frames) (hRl : (rest.map fun v => v.category).sum + 82 ≤ R.locals) (hRc : cells + 1 ≤ R.cells) (hRs : slots + 6 ≤ R.slots) (hc : cells + 1 ≤ mc) (hs : slots + 6 ≤ ms)
    (d0 : decode cc pc = .ok (.new ik, 3)) (d3 : decode cc (pc + 3) = .ok (.dup, 1)) (d4 : decode cc (pc + 4) = .ok (.ldc is, 2)) (d6 : decode cc (pc + 6) = .ok (.invokespecial ic, 3)) (d9 : decode cc (pc + 9) = .ok (.athrow, 1)) :
    W p l e R s m args below meth c H locs cells slots (vx_MQ below Qc (qXC D τ A ad N pX) args s mc ms A) (F0 m pc ls rest) := by
  obtain ⟨hU, hN, hB, hS, -⟩ := hst
  obtain ⟨sa, hstr⟩ := hS (is, text) hs1
  refine vx_throwS F.1 F.2.1 hl (own := "LabelRouter") (cls := cls) (text := text) (names := xN) (sa := sa) F.2.2.2.1 hfit (by decide) (F.2.2.2.2 _ hk) (F.2.2.2.2 _ hini) hstr (vx_hat (fun w hw => F.2.2.2.2 _ (hat1 w hw)) hat2 (fun w hw => va_Nw.use (qBad_on w hw) (hB w hw))) hot hU hN hW.2.2.2.1 (hsize.trans F.2.2.1.symm) d0 d3 d4 d6 d9 (fun x hx => absurd (hout x hx) id) hRf hRl hRc hRs hlk ?_ hW.2.2.2.1.2.2 hc hs
  intro t hal h1 h2
  exact ⟨w, trivial, ⟨hp, hW.1.kept (fun k q hq => h2 _ (vx_lt hW.1 hq)), va_K.moved hal hW.2.2.1, hW.2.1⟩, Nat.le_trans hW.2.2.2.1.1 h1, fun q h3 h4 => (h2 q (Nat.lt_of_lt_of_le h3 hW.2.2.2.1.1)).trans (hW.2.2.2.1.2.1 q h3 h4)⟩
theorem qx_calli {st0 : List Value} {a : Array Value} {m1 s1 : Nat} (hW : qW D τ A s H locs ad N w) {post : Int32 → (Nat → va_E) → Prop} (hr : vx_Run p l e R s m args below meth c H locs cells slots m1 s1 (F0 m pc ls st0) rest (va_Qi post (qB D τ A ad N) A a) (qXC D τ A ad N pX) A)
    (kx : ∀ (E : String) (ce : Cell) (q9 : Addr) (w1 : Nat → va_E) (H1 : Heap) (locs1 : List Loc), pX E w1 → qW D τ A s H1 locs1 ad N w1 → H1[q9]? = some ce → ce.vm = .none → s.vm.findClass E = some ce.cls → vx_W p l e R s m args below meth c H1 locs1 (cells + m1) (slots + s1) Q (F0 m pc ls rest) q9)
    (kk : ∀ (r : Int32) (w1 : Nat → va_E) (H1 : Heap) (locs1 : List Loc), post r w1 → qW D τ A s H1 locs1 ad N w1 → W p l e R s m args below meth c H1 locs1 (cells + m1) (slots + s1) Q (F0 m (pc + 3) ls (.int r :: rest))) : W p l e R s m args below meth c H locs cells slots Q (F0 m pc ls st0) :=
  vx_calli hr hW.2.2.2.1 (fun _ _ h => h) (fun _ h => h) (fun _ _ h => h) (fun E ce q9 u t H1 locs1 ht _ _ hB _ _ hS h1 h2 h3 => kx E ce q9 u H1 locs1 hB.1 (hW.next ht hB.2 hS) h1 h2 h3) (fun r u t H1 locs1 ht _ hp hB _ _ hS => kk r u H1 locs1 hp (hW.next ht hB hS))
theorem qx_callv {st0 : List Value} {a : Array Value} {m1 s1 : Nat} (hW : qW D τ A s H locs ad N w) {post : (Nat → va_E) → Prop} (hr : vx_Run p l e R s m args below meth c H locs cells slots m1 s1 (F0 m pc ls st0) rest (va_Qv post (qB D τ A ad N) A a) (qXC D τ A ad N pX) A)
    (kx : ∀ (E : String) (ce : Cell) (q9 : Addr) (w1 : Nat → va_E) (H1 : Heap) (locs1 : List Loc), pX E w1 → qW D τ A s H1 locs1 ad N w1 → H1[q9]? = some ce → ce.vm = .none → s.vm.findClass E = some ce.cls → vx_W p l e R s m args below meth c H1 locs1 (cells + m1) (slots + s1) Q (F0 m pc ls rest) q9)
    (kk : ∀ (w1 : Nat → va_E) (H1 : Heap) (locs1 : List Loc), post w1 → qW D τ A s H1 locs1 ad N w1 → W p l e R s m args below meth c H1 locs1 (cells + m1) (slots + s1) Q (F0 m (pc + 3) ls rest)) : W p l e R s m args below meth c H locs cells slots Q (F0 m pc ls st0) :=
  vx_callv hr hW.2.2.2.1 (fun _ _ h => h) (fun _ h => h) (fun _ _ h => h) (fun E ce q9 u t H1 locs1 ht _ _ hB _ _ hS h1 h2 h3 => kx E ce q9 u H1 locs1 hB.1 (hW.next ht hB.2 hS) h1 h2 h3) (fun u t H1 locs1 ht _ hp hB _ _ hS => kk u H1 locs1 hp (hW.next ht hB hS))
theorem qx_out (hW : qW D τ A s H locs ad N w) (hout : ∀ x ∈ c.exceptionTable.toList, False) (hlk : meth.locks = false) {E : String} {ce : Cell} {q : Addr} (hcell : H[q]? = some ce) (hv : ce.vm = .none) (hcl : s.vm.findClass E = some ce.cls) (hp : pX E w) (hc : cells ≤ mc) (hs : slots ≤ ms) :
    vx_W p l e R s m args below meth c H locs cells slots (vx_MQ below Qc (qXC D τ A ad N pX) args s mc ms A) (F0 m pc ls rest) q :=
  vx_out (fun x hx => absurd (hout x hx) id) hlk hcell hv hcl (fun t ht hal => ⟨w, trivial, ⟨hp, by rw [ht]; exact hW.1, va_K.moved hal hW.2.2.1, hW.2.1⟩, hW.2.2.2.1.F ht⟩) hW.2.2.2.1.2.2 hc hs
theorem qx_iret (F : CallFix p m c cc nL s args lw_good own) (hr : meth.sig.returnType = some .int) (hlk : meth.locks = false) (hW : qW D τ A s H locs ad N w) {post : Int32 → (Nat → va_E) → Prop} {v : Int32} (hp : post v w) (hc : cells ≤ mc) (hs : slots ≤ ms) (hdg : decode cc pc = .ok (.ireturn, 1)) :
    W p l e R s m args below meth c H locs cells slots (vx_MQ below (va_Qi post (qB D τ A ad N) A) XC args s mc ms A) (F0 m pc ls [.int v]) := vx_ret (W.widen hc hs (q_iret F hr hlk hW hp hdg))
theorem qx_vret (F : CallFix p m c cc nL s args lw_good own) (hr : meth.sig.returnType = none) (hlk : meth.locks = false) (hW : qW D τ A s H locs ad N w) {post : (Nat → va_E) → Prop} (hp : post w) (hc : cells ≤ mc) (hs : slots ≤ ms) (hdg : decode cc pc = .ok (.return_, 1)) :
    W p l e R s m args below meth c H locs cells slots (vx_MQ below (va_Qv post (qB D τ A ad N) A) XC args s mc ms A) (F0 m pc ls []) := vx_ret (W.widen hc hs (q_vret F hr hlk hW hp hdg))
theorem qx_preS (hW : qW D τ A s H locs ad N w) (hst : qSt A s s.heap) {As : List Value} : PreS s H (qPx D τ A ad N w As) As :=
  ⟨qx_blind, fun U hU hw => ⟨rfl, ⟨⟨by rw [hU]; exact hW.1, va_K.moved hw.alike hW.2.2.1, hW.2.1⟩, fun q hq => hW.2.2.2.2 q (Nat.le_trans hW.2.2.2.1.1 (by rw [← hU]; exact hq))⟩, hst.next hw hW.2.2.2.1 hU⟩⟩
variable {C : String} {T : u_T} {index n nn m1 s1 maxL k ci : Nat} {y : MethodName} {bytes : ByteArray} {ret : Option FieldType} {rm : Room} {fs st0 As : List Value} {Q1 : Array Value → State → Outcome → State → Prop}
theorem qx_cV (F : CallFix p m c cc nL s args lw_good own) (hW : qW D τ A s H locs ad N w) (hst : qSt A s s.heap) (G : GoodIn lw_good (wsV own index C y (qws y bytes maxL ret))) (hd : y.cls = C ∧ y.cls ≠ "java/lang/invoke/MethodHandle" ∧ y.cls ≠ "java/lang/invoke/VarHandle" ∧ (parseMethodDescriptor y.desc).map (fun d => d.parameters.length) = some n) (hc : qCl[ci]? = some (C, T, nn)) (hk : k < N) (ho : w k = .inr (ci, fs))
    (hM : vx_Met l y (qws y bytes maxL ret) rm (qPx D τ A ad N w (.ref (ad k) :: As)) Q1 XC m1 s1 A) (hrc : rm.cells = m1) (hrs : rm.slots = s1) (hR : rm.frames + 1 ≤ R.frames ∧ 8 + (maxL + 11) + rm.locals ≤ R.locals) (hn : As.length = n) (hsize : ls.size = nL) (hst0 : st0 = As.reverse ++ .ref (ad k) :: rest) (hre : (rest.map fun v => v.category).sum ≤ 8) (hdg : decode cc pc = .ok (.invokevirtual index, 3)) (hf : cells + m1 ≤ R.cells ∧ slots + s1 ≤ R.slots) :
    vx_Run p l e R s m args below meth c H locs cells slots m1 s1 (F0 m pc ls st0) rest (Q1 (Value.ref (ad k) :: As).toArray) XC A :=
  vx_runV (As := As) (rest := rest) F hM (cwV n F.2.2.2.2 G rfl hrc hrs hd hR) ⟨qx_blind, va_recv hW.2.2.1 hW.1 (q0 := k) (fs := fs) hc (by rw [qL_at hk, ho]), (qx_preS hW hst).2⟩ rfl hn hsize hst0 (lv_room hre) hdg hf
end QXR
theorem xa_bad45 : ∀ w ∈ (vx_atS "LabelRouter" 45 xIA xN).filter (fun w => !goodWord w), w ∈ qBad := by decide +kernel
theorem xa_bad202 : ∀ w ∈ (vx_atS "LabelRouter" 202 xIO xN).filter (fun w => !goodWord w), w ∈ qBad := by decide +kernel
theorem xa_bad71 : ∀ w ∈ (vx_atS "LabelRouter" 71 xIS xN).filter (fun w => !goodWord w), w ∈ qBad := by decide +kernel
theorem xa_in45 : ∀ w ∈ vx_atS "LabelRouter" 45 xIA xN, w ∈ lw_tbl := by decide +kernel
theorem xa_in202 : ∀ w ∈ vx_atS "LabelRouter" 202 xIO xN, w ∈ lw_tbl := by decide +kernel
theorem xa_in71 : ∀ w ∈ vx_atS "LabelRouter" 71 xIS xN, w ∈ lw_tbl := by decide +kernel
theorem xa_gd {L : List Cond} (h : ∀ w ∈ L, w ∈ lw_tbl) : ∀ w ∈ L.filter goodWord, w ∈ lw_good := fun w hw => List.mem_filter.mpr ⟨h w (List.mem_filter.mp hw).1, (List.mem_filter.mp hw).2⟩
theorem xa_ot45 : ∀ w ∈ Cond.classLink "LabelRouter" 41 xIA :: Cond.initialized xIA :: vx_atS "LabelRouter" 45 xIA xN, vx_ot w = true := by decide +kernel
theorem xa_ot202 : ∀ w ∈ Cond.classLink "LabelRouter" 198 xIO :: Cond.initialized xIO :: vx_atS "LabelRouter" 202 xIO xN, vx_ot w = true := by decide +kernel
theorem xa_ot71 : ∀ w ∈ Cond.classLink "LabelRouter" 67 xIS :: Cond.initialized xIS :: vx_atS "LabelRouter" 71 xIS xN, vx_ot w = true := by decide +kernel
theorem xa_kIA : Cond.classLink "LabelRouter" 41 xIA ∈ lw_good := List.mem_filter.mpr ⟨by decide +kernel, by decide +kernel⟩
theorem xa_kIO : Cond.classLink "LabelRouter" 198 xIO ∈ lw_good := List.mem_filter.mpr ⟨by decide +kernel, by decide +kernel⟩
theorem xa_kIS : Cond.classLink "LabelRouter" 67 xIS ∈ lw_good := List.mem_filter.mpr ⟨by decide +kernel, by decide +kernel⟩
theorem xa_iIA : Cond.initialized xIA ∈ lw_good := List.mem_filter.mpr ⟨by decide +kernel, by decide +kernel⟩
theorem xa_iIO : Cond.initialized xIO ∈ lw_good := List.mem_filter.mpr ⟨by decide +kernel, by decide +kernel⟩
theorem xa_iIS : Cond.initialized xIS ∈ lw_good := List.mem_filter.mpr ⟨by decide +kernel, by decide +kernel⟩
