/-! rows over the tables' good words -/
abbrev qws (y : MethodName) (cc : ByteArray) (maxL : Nat) (ret : Option FieldType) : List Cond := Cond.code y cc maxL ret :: lw_good
theorem lw_good_w {w : Cond} (h : w ∈ lw_good) : goodWord w = true := (List.mem_filter.mp h).2
theorem q_gd {ws : List Cond} (h : ∀ w ∈ ws, w ∈ lw_good) : GoodIn lw_good ws := fun w hw => ⟨h w hw, good_of_word (lw_good_w (h w hw))⟩
theorem q_gC {y : MethodName} {cc : ByteArray} {maxL : Nat} {ret : Option FieldType} (h : Cond.code y cc maxL ret ∈ lw_good) : GoodIn lw_good (qws y cc maxL ret) := q_gd (fun w hw => (List.mem_cons.mp hw).elim (fun z => by rw [z]; exact h) id)
theorem q_gV {own C : String} {i : Nat} {y : MethodName} {cc : ByteArray} {maxL : Nat} {ret : Option FieldType} (h1 : Cond.methodLink own i y ∈ lw_good) (h2 : Cond.instanceMethod y ∈ lw_good) (h3 : Cond.selects C y y ∈ lw_good) (h4 : Cond.initialized C ∈ lw_good) (h5 : Cond.code y cc maxL ret ∈ lw_good) : GoodIn lw_good (wsV own i C y (qws y cc maxL ret)) := by
  refine q_gd (fun w hw => ?_)
  unfold wsV at hw
  rcases List.mem_append.mp hw with hw | hw
  · simp only [List.mem_cons, List.not_mem_nil, or_false] at hw
    rcases hw with rfl | rfl | rfl | rfl <;> assumption
  · exact ((q_gC h5) w hw).1
theorem q_gS {own : String} {i : Nat} {y : MethodName} {cc : ByteArray} {maxL : Nat} {ret : Option FieldType} (h1 : Cond.methodLink own i y ∈ lw_good) (h2 : Cond.static y ∈ lw_good) (h4 : Cond.initialized y.cls ∈ lw_good) (h5 : Cond.code y cc maxL ret ∈ lw_good) : GoodIn lw_good (va_wsS own i y (qws y cc maxL ret)) := by
  refine q_gd (fun w hw => ?_)
  unfold va_wsS at hw
  rcases List.mem_append.mp hw with hw | hw
  · simp only [List.mem_cons, List.not_mem_nil, or_false] at hw
    rcases hw with rfl | rfl | rfl <;> assumption
  · exact ((q_gC h5) w hw).1
section QOF
variable {l : Launch} {D : va_G} {A : Nat → Prop} {τ : Nat → ClassId} {ad : Nat → Nat} {N : Nat} {w : Nat → va_E}
/-- a contract is a walk from the method's entry -/
theorem q_of {y : MethodName} {rm : Room} {Qc : Array Value → State → Outcome → State → Prop} {mc ms : Nat} {cc : ByteArray} {maxL : Nat} {ret : Option FieldType} {av : List Value} {lv : List (Nat × Value)}
    (hy : plainName y.cls = true) (hav : (lg_sl av).length ≤ maxL) (hlv : lv_args 0 av = lv)
    (body : ∀ (p : Program) (e : Env) (s : State) (m : MethodId) (below : List Frame) (meth : Method) (c : Code) (ls : Array Slot), CallFix p m c cc maxL s av.toArray lw_good y.cls → meth.sig.returnType = ret → meth.locks = false → meth.name = y.name → c.exceptionTable.isEmpty = true → lv_has ls maxL lv → qW D τ A s s.heap [] ad N w →
      W p l e rm s m av.toArray below meth c s.heap [] 0 0 (MQ below Qc av.toArray s mc ms A) (F0 m 0 ls [])) : Met l y (qws y cc maxL ret) rm (qPc D τ A ad N w av) Qc mc ms A :=
  q_ofW hy rfl hav hlv (fun p e s m below meth c ls F => body p e s m below meth c ls ⟨F.1, F.2.1, F.2.2.1, F.2.2.2.1, fun x hx => F.2.2.2.2 x (List.mem_cons_of_mem _ hx)⟩)
end QOF
section QF
variable {p : Program} {l : Launch} {e : Env} {R : Room} {s : State} {m : MethodId} {args : Array Value} {below : List Frame} {meth : Method} {c : Code} {H : Heap} {locs : List Loc} {cells slots : Nat} {Q : State → Prop}
variable {cc : ByteArray} {nL : Nat} {own : String} {pc : Nat} {ls : Array Slot} {rest : List Value} {D : va_G} {A : Nat → Prop} {τ : Nat → ClassId} {ad : Nat → Nat} {N : Nat} {w : Nat → va_E}
theorem q_get (F : CallFix p m c cc nL s args lw_good own) (hW : qW D τ A s H locs ad N w) {k ci : Nat} {fs : List Value} (hk : k < N) (ho : w k = .inr (ci, fs)) {C : String} {T : u_T} {n : Nat} (hc : qCl[ci]? = some (C, T, n)) (hin : ∀ x ∈ u_ws C T n, x ∈ lw_good) (j : Nat) (hj : j < n) {index : Nat} (hlink : Cond.fieldLink own index C (T j).2.1 (T j).2.2.1 ∈ lw_good) (hcl : (T j).1 = C) {v : Value} (hv : fs[j]? = some v) (hdg : decode cc pc = .ok (.getfield index, 3))
    (kk : W p l e R s m args below meth c H locs cells slots Q (F0 m (pc + 3) ls (v :: rest))) : W p l e R s m args below meth c H locs cells slots Q (F0 m pc ls (.ref (ad k) :: rest)) :=
  va_get F.1 F.2.1 F.2.2.2.2 hin F.2.2.2.1 hW.2.2.1 hW.1 k (by rw [qL_at hk, ho]) hc j hj (F.2.2.2.2 _ hlink) (fun x h => by rw [← hcl]; exact h) hv hdg kk
theorem q_getN (F : CallFix p m c cc nL s args lw_good own) (hW : qW D τ A s H locs ad N w) {k ci : Nat} {fs : List Value} (hk : k < N) (ho : w k = .inr (ci, fs)) {C host : String} {T : u_T} {n : Nat} (hc : qCl[ci]? = some (C, T, n)) (hin : ∀ x ∈ u_ws C T n, x ∈ lw_good) (j : Nat) (hj : j < n) {index : Nat} (hlink : (Cond.fieldLinkNest own index C (T j).2.1 (T j).2.2.1 host).before args s = true) (hcl : (T j).1 = C) {v : Value} (hv : fs[j]? = some v) (hdg : decode cc pc = .ok (.getfield index, 3))
    (kk : W p l e R s m args below meth c H locs cells slots Q (F0 m (pc + 3) ls (v :: rest))) : W p l e R s m args below meth c H locs cells slots Q (F0 m pc ls (.ref (ad k) :: rest)) :=
  va_getN F.1 F.2.1 F.2.2.2.2 hin F.2.2.2.1 hW.2.2.1 hW.1 k (by rw [qL_at hk, ho]) hc j hj hlink (fun x h => by rw [← hcl]; exact h) hv hdg kk
theorem q_put (F : CallFix p m c cc nL s args lw_good own) (hW : qW D τ A s H locs ad N w) {k ci : Nat} {fs : List Value} (hk : k < N) (ho : w k = .inr (ci, fs)) {C : String} {T : u_T} {n : Nat} (hc : qCl[ci]? = some (C, T, n)) (hin : ∀ x ∈ u_ws C T n, x ∈ lw_good) (ty0 : Nat → FieldType) (hty : ∀ k, k < n → parseFieldDescriptor (T k).2.2.1 = some (ty0 k)) (hnm : ∀ a, a < n → ∀ b, b < n → a ≠ b → (T a).2.1 ≠ (T b).2.1) (j : Nat) (hj : j < n) {index : Nat} (hlink : Cond.fieldLink own index C (T j).2.1 (T j).2.2.1 ∈ lw_good) (hcl : (T j).1 = C) (hfin : (T j).2.2.2 = false) {ty : FieldType} {v : Value} (hd : parseFieldDescriptor (T j).2.2.1 = some ty) (hn : narrow ty v = v) (hfit : fits ty v = true) (hl : j < fs.length) (hdg : decode cc pc = .ok (.putfield index, 3))
    (kk : ∀ (H1 : Heap) (locs1 : List Loc) (w1 : Nat → va_E), qW D τ A s H1 locs1 ad N w1 → w1 k = .inr (ci, fs.set j v) → (∀ q, q ≠ k → w1 q = w q) → W p l e R s m args below meth c H1 locs1 cells slots Q (F0 m (pc + 3) ls rest)) : W p l e R s m args below meth c H locs cells slots Q (F0 m pc ls (v :: .ref (ad k) :: rest)) :=
  va_put F.1 F.2.1 F.2.2.2.2 hin ty0 hty hnm F.2.2.2.1 hW.2.2.1 hW.1 hW.2.1 hW.2.2.2.1 k (by rw [qL_at hk, ho]) hc j hj (F.2.2.2.2 _ hlink) (fun x h => by rw [← hcl]; exact h) hfin hd hn hfit hl hdg (fun H1 locs1 a1 a2 a3 => kk H1 locs1 _ (hW.put a1 a2 a3) (va_up_self _ _ _) (fun q hq => va_up_ne _ _ hq))
theorem q_putF (F : CallFix p m c cc nL s args lw_good own) (hW : qW D τ A s H locs ad N w) {k ci : Nat} {fs : List Value} (hk : k < N) (ho : w k = .inr (ci, fs)) {C : String} {T : u_T} {n : Nat} (hc : qCl[ci]? = some (C, T, n)) (hin : ∀ x ∈ u_ws C T n, x ∈ lw_good) (ty0 : Nat → FieldType) (hty : ∀ k, k < n → parseFieldDescriptor (T k).2.2.1 = some (ty0 k)) (hnm : ∀ a, a < n → ∀ b, b < n → a ≠ b → (T a).2.1 ≠ (T b).2.1) (j : Nat) (hj : j < n) {index : Nat} (hlink : Cond.fieldLink own index C (T j).2.1 (T j).2.2.1 ∈ lw_good) (hcl : (T j).1 = C) (hfin : (T j).2.2.2 = true) (hin2 : meth.name = "<init>") (hdecl : (T j).1 = own) {ty : FieldType} {v : Value} (hd : parseFieldDescriptor (T j).2.2.1 = some ty) (hn : narrow ty v = v) (hfit : fits ty v = true) (hl : j < fs.length) (hdg : decode cc pc = .ok (.putfield index, 3))
    (kk : ∀ (H1 : Heap) (locs1 : List Loc) (w1 : Nat → va_E), qW D τ A s H1 locs1 ad N w1 → w1 k = .inr (ci, fs.set j v) → (∀ q, q ≠ k → w1 q = w q) → W p l e R s m args below meth c H1 locs1 cells slots Q (F0 m (pc + 3) ls rest)) : W p l e R s m args below meth c H locs cells slots Q (F0 m pc ls (v :: .ref (ad k) :: rest)) :=
  va_putF F.1 F.2.1 F.2.2.2.2 hin ty0 hty hnm F.2.2.2.1 hW.2.2.1 hW.1 hW.2.1 hW.2.2.2.1 k (by rw [qL_at hk, ho]) hc j hj (F.2.2.2.2 _ hlink) (fun x h => by rw [← hcl]; exact h) hfin hin2 hdecl hd hn hfit hl hdg (fun H1 locs1 a1 a2 a3 => kk H1 locs1 _ (hW.put a1 a2 a3) (va_up_self _ _ _) (fun q hq => va_up_ne _ _ hq))
end QF
