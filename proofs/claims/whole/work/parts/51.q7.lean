/-! shifts by four, references given back -/
theorem q_or4 {a p : Nat} (ha : a < 2 ^ 24) (hp : p < 16) : nI (a * 16) ||| nI p = nI (a * 16 + p) := by
  apply Int32.toBitVec_inj.mp
  apply BitVec.eq_of_toNat_eq
  rw [Int32.toBitVec_or, BitVec.toNat_or]
  have e : ∀ n : Nat, n < 2 ^ 32 → (nI n).toBitVec.toNat = n := fun n h => by
    show (BitVec.ofNat 32 n).toNat = n
    rw [BitVec.toNat_ofNat, Nat.mod_eq_of_lt h]
  rw [e _ (by omega), e _ (by omega), e _ (by omega)]
  have := Nat.two_pow_add_eq_or_of_lt (i := 4) (b := p) (by omega) a
  rw [show 2 ^ 4 * a = a * 16 by omega] at this
  exact this.symm
theorem q_s31 : ∀ k, k < 8 → ((nI (4 * k) &&& 31).toBitVec.smod 32).toNat = 4 * k := by decide +kernel
section QS4
variable {p : Program} {l : Launch} {e : Env} {R : Room} {s : State} {m : MethodId} {args : Array Value} {below : List Frame} {meth : Method} {c : Code} {H : Heap} {locs : List Loc} {cells slots : Nat} {Q : State → Prop}
variable {cc : ByteArray} {nL : Nat} {own : String} {pc : Nat} {ls : Array Slot} {rest : List Value} {D : va_G} {A : Nat → Prop} {τ : Nat → ClassId} {ad : Nat → Nat} {N : Nat} {w : Nat → va_E}
theorem q_ishl4 (F : CallFix p m c cc nL s args lw_good own) {x y : Int32} (a : Nat) (hx : x.toInt = (a : Int)) (ha : a < 2 ^ 24) (hy : y.toInt = 4) (hdg : decode cc pc = .ok (.ishl, 1)) (kk : ∀ v : Int32, v.toInt = ((a * 16 : Nat) : Int) → W p l e R s m args below meth c H locs cells slots Q (F0 m (pc + 1) ls (.int v :: rest))) : W p l e R s m args below meth c H locs cells slots Q (F0 m pc ls (.int y :: .int x :: rest)) := by
  refine lv_ishl F.1 F.2.1 hdg (kk _ ?_)
  rw [q_nI hx, q_nI (y := y) (j := 4) hy, pk_shlN _ 4 (by decide +kernel) (by omega), nI_toInt (by omega)]
theorem q_ior4 (F : CallFix p m c cc nL s args lw_good own) {x y : Int32} (a b : Nat) (hx : x.toInt = ((a * 16 : Nat) : Int)) (ha : a < 2 ^ 24) (hy : y.toInt = (b : Int)) (hb : b < 16) (hdg : decode cc pc = .ok (.ior, 1)) (kk : ∀ v : Int32, v.toInt = ((a * 16 + b : Nat) : Int) → W p l e R s m args below meth c H locs cells slots Q (F0 m (pc + 1) ls (.int v :: rest))) : W p l e R s m args below meth c H locs cells slots Q (F0 m pc ls (.int y :: .int x :: rest)) := by
  refine lv_ior F.1 F.2.1 hdg (kk _ ?_)
  rw [q_nI hx, q_nI hy, q_or4 ha hb, nI_toInt (by omega)]
theorem q_ishr4 (F : CallFix p m c cc nL s args lw_good own) {x y : Int32} (a k : Nat) (hx : x.toInt = (a : Int)) (ha : a < 2 ^ 31) (hk : k < 8) (hy : y.toInt = ((4 * k : Nat) : Int)) (hdg : decode cc pc = .ok (.ishr, 1)) (kk : ∀ v : Int32, v.toInt = ((a / 16 ^ k : Nat) : Int) → W p l e R s m args below meth c H locs cells slots Q (F0 m (pc + 1) ls (.int v :: rest))) : W p l e R s m args below meth c H locs cells slots Q (F0 m pc ls (.int y :: .int x :: rest)) := by
  refine lv_ishr F.1 F.2.1 hdg (kk _ ?_)
  rw [q_nI hx, q_nI hy, pk_shrN ha _ (4 * k) (q_s31 k hk), nI_toInt (Nat.lt_of_le_of_lt (Nat.div_le_self _ _) ha), Nat.pow_mul]
theorem q_iand15 (F : CallFix p m c cc nL s args lw_good own) {x y : Int32} (a : Nat) (hx : x.toInt = (a : Int)) (ha : a < 2 ^ 31) (hy : y.toInt = 15) (hdg : decode cc pc = .ok (.iand, 1)) (kk : ∀ v : Int32, v.toInt = ((a % 16 : Nat) : Int) → W p l e R s m args below meth c H locs cells slots Q (F0 m (pc + 1) ls (.int v :: rest))) : W p l e R s m args below meth c H locs cells slots Q (F0 m pc ls (.int y :: .int x :: rest)) := by
  refine lv_iand F.1 F.2.1 hdg (kk _ ?_)
  rw [q_nI hx, q_nI (y := y) (j := 15) hy, pk_andN (by omega) 4 (by decide +kernel), nI_toInt (by omega)]
/-- a reference to the cell k -/
def qBr (D : va_G) (τ : Nat → ClassId) (A : Nat → Prop) (ad : Nat → Nat) (N k : Nat) (w : Nat → va_E) (a : Nat) (t : State) : Prop := a = ad k ∧ qB D τ A ad N w t
theorem q_aret (F : CallFix p m c cc nL s args lw_good own) {rt : FieldType} (hr : meth.sig.returnType = some rt) (hrf : (∃ n, rt = .object n) ∨ ∃ t, rt = .array t) (hlk : meth.locks = false) (hW : qW D τ A s H locs ad N w) {post : (Nat → va_E) → Prop} {k : Nat} (hp : post w) (hdg : decode cc pc = .ok (.areturn, 1)) :
    W p l e R s m args below meth c H locs cells slots (MQ below (va_Qr post (qBr D τ A ad N k) A) args s cells slots A) (F0 m pc ls [.ref (ad k)]) :=
  W.aret (v := .ref (ad k)) F.1 F.2.1 hr hrf (Or.inr ⟨_, rfl⟩) (fun t ht hw => ⟨⟨w, ad k, rfl, hp, rfl, hW.back ht hw⟩, hW.2.2.2.1.F ht⟩) hW.2.2.2.1.2.2 hdg hlk
theorem q_callr {st0 : List Value} {a : Array Value} {mc ms k : Nat} (hW : qW D τ A s H locs ad N w) {post : (Nat → va_E) → Prop} (hr : va_Run p l e R s m args below meth c H locs cells slots mc ms (F0 m pc ls st0) rest (va_Qr post (qBr D τ A ad N k) A a) A)
    (kk : ∀ (w1 : Nat → va_E) (H1 : Heap) (locs1 : List Loc), post w1 → qW D τ A s H1 locs1 ad N w1 → W p l e R s m args below meth c H1 locs1 (cells + mc) (slots + ms) Q (F0 m (pc + 3) ls (.ref (ad k) :: rest))) : W p l e R s m args below meth c H locs cells slots Q (F0 m pc ls st0) :=
  va_callr hr hW.2.2.2.1 (fun _ _ h => h) (fun _ h => h) (fun u ra t H1 locs1 ht _ hp hB _ _ hS => by obtain ⟨rfl, hB⟩ := hB; exact kk u H1 locs1 hp (hW.next ht hB hS))
end QS4
